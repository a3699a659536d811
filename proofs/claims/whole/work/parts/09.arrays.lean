/-! ===== ROWS: arrays, ends of methods, calls, new cells ===== -/
/-- an int that is the place j of a row of n -/
def ix (i : Int32) (j n : Nat) : Prop := ¬ i < 0 ∧ i.toNatClampNeg = j ∧ j < n
theorem ix.ni {j n : Nat} (h : j < n) (hn : n < 2 ^ 31) : ix (nI j) j n := ⟨nI_pos (by omega), nI_clamp (by omega), h⟩
theorem Ok.ks {Γ : GT} {E : CT} {q : MD} (h : Ok Γ E q) : KS Γ E.1.2.2.1 := h.2.2.2.2.2.2.2.2
theorem HI.arr {Γ : GT} {G : GG} {z : Nat} {M : MM} {H : Heap} (h : HI Γ G z M H) {a n : Nat} {ty : FieldType} (hG : G a = some (.inr (ty, n))) : H[a]? = some (arrV (Γ.2.2.1 ty) n (fun j => vty ty M a j)) := (h.2.2.2 a _ hG).2
theorem ix.ok {i : Int32} {j n : Nat} (h : ix i j n) (c : ClassId) (f : Nat → Value) : ¬ (i < 0 ∨ (arrV c n f).slots.size ≤ i.toNatClampNeg) := by
  obtain ⟨h0, h1, h2⟩ := h
  rw [arrV_size, h1]
  rintro (h | h)
  · exact h0 h
  · omega
theorem ix.rd {i : Int32} {j n : Nat} (h : ix i j n) (c : ClassId) (f : Nat → Value) : (arrV c n f).slots[i.toNatClampNeg]? = some (f j) := by
  obtain ⟨h0, h1, h2⟩ := h
  rw [h1, arrV_read _ _ h2]
theorem arr_st_I (c : ClassId) {ty : FieldType} (ht : tk ty = 0) (M : MM) (a n j : Nat) (x : Int32) : (arrV c n (fun j => vty ty M a j)).setSlot j (.int x) = arrV c n (fun j' => vty ty (sI M a j x) a j') := by
  rw [arrV_store]
  congr 1
  funext i
  by_cases hi : i = j
  · subst hi
    simp [updV, vty_I ht, sI, up2]
  · simp [updV, vty_I ht, sI, up2, hi]
theorem arr_st_L (c : ClassId) {ty : FieldType} (ht : tk ty = 1) (M : MM) (a n j : Nat) (x : Int64) : (arrV c n (fun j => vty ty M a j)).setSlot j (.long x) = arrV c n (fun j' => vty ty (sL M a j x) a j') := by
  rw [arrV_store]
  congr 1
  funext i
  by_cases hi : i = j
  · subst hi
    simp [updV, vty_L ht, sL, up2]
  · simp [updV, vty_L ht, sL, up2, hi]
theorem arr_st_R (c : ClassId) {ty : FieldType} (ht : tk ty = 2) (M : MM) (a n j : Nat) (x : Value) : (arrV c n (fun j => vty ty M a j)).setSlot j x = arrV c n (fun j' => vty ty (sR M a j x) a j') := by
  rw [arrV_store]
  congr 1
  funext i
  by_cases hi : i = j
  · subst hi
    simp [updV, vty_R ht, sR, up2]
  · simp [updV, vty_R ht, sR, up2, hi]
section AROWS
variable {Γ : GT} {E : CT} {q : MD} {k n : Nat} {G : GG} {z : Nat} {M : MM} {pc : Nat} {L : List (Option Value)} {st : List Value}
theorem x_alen (h : Ok Γ E q) {a m : Nat} {ty : FieldType} (hG : G a = some (.inr (ty, m))) (hty : ty ∈ aTys) (d : decode q.2.1 pc = .ok (.arraylength, 1)) (kk : X Γ E k n G z M (pc + 1) L (.int (nI m) :: st)) : X Γ E k n G z M pc L (.ref a :: st) := fun H locs ls hH hF hL =>
  W.alen h.1 h.2.1 (hH.arr hG) ((h.ks.2.1 ty hty).1 _ _) (by rw [arrV_size]; rfl) rfl rfl d (kk H locs ls hH hF hL)
theorem x_iald (h : Ok Γ E q) {a m : Nat} {i : Int32} (j : Nat) (hG : G a = some (.inr (.int, m))) (hi : ix i j m) (d : decode q.2.1 pc = .ok (.iaload, 1)) (kk : X Γ E k n G z M (pc + 1) L (.int (M.1 a j) :: st)) : X Γ E k n G z M pc L (.int i :: .ref a :: st) := fun H locs ls hH hF hL =>
  W.iald h.1 h.2.1 (hH.arr hG) ((h.ks.2.1 .int (by decide)).1 _ _) (fun q => by cases q) (hi.ok _ _) (hi.rd _ _) rfl rfl d (kk H locs ls hH hF hL)
theorem x_cald (h : Ok Γ E q) {a m : Nat} {i : Int32} (j : Nat) (hG : G a = some (.inr (.char, m))) (hi : ix i j m) (d : decode q.2.1 pc = .ok (.caload, 1)) (kk : X Γ E k n G z M (pc + 1) L (.int (M.1 a j) :: st)) : X Γ E k n G z M pc L (.int i :: .ref a :: st) := fun H locs ls hH hF hL =>
  W.cald h.1 h.2.1 (hH.arr hG) ((h.ks.2.1 .char (by decide)).1 _ _) (fun q => by cases q) (hi.ok _ _) (hi.rd _ _) rfl rfl d (kk H locs ls hH hF hL)
theorem x_zald (h : Ok Γ E q) {a m : Nat} {i : Int32} (j : Nat) (hG : G a = some (.inr (.boolean, m))) (hi : ix i j m) (d : decode q.2.1 pc = .ok (.baload, 1)) (kk : X Γ E k n G z M (pc + 1) L (.int (M.1 a j) :: st)) : X Γ E k n G z M pc L (.int i :: .ref a :: st) := fun H locs ls hH hF hL =>
  W.zald h.1 h.2.1 (hH.arr hG) ((h.ks.2.1 .boolean (by decide)).1 _ _) (fun q => by cases q) (hi.ok _ _) (hi.rd _ _) rfl rfl d (kk H locs ls hH hF hL)
theorem x_lald (h : Ok Γ E q) {a m : Nat} {i : Int32} (j : Nat) (hG : G a = some (.inr (.long, m))) (hi : ix i j m) (d : decode q.2.1 pc = .ok (.laload, 1)) (kk : X Γ E k n G z M (pc + 1) L (.long (M.2.1 a j) :: st)) : X Γ E k n G z M pc L (.int i :: .ref a :: st) := fun H locs ls hH hF hL =>
  W.lald h.1 h.2.1 (hH.arr hG) ((h.ks.2.1 .long (by decide)).1 _ _) (fun q => by cases q) (hi.ok _ _) (hi.rd _ _) rfl rfl d (kk H locs ls hH hF hL)
theorem x_aald (h : Ok Γ E q) {a m : Nat} {C : String} {i : Int32} (j : Nat) {v : Value} (hG : G a = some (.inr (.object C, m))) (hty : FieldType.object C ∈ aTys) (hi : ix i j m) (hr : M.2.2 a j = v) (d : decode q.2.1 pc = .ok (.aaload, 1)) (kk : X Γ E k n G z M (pc + 1) L (v :: st)) : X Γ E k n G z M pc L (.int i :: .ref a :: st) := fun H locs ls hH hF hL =>
  W.aald h.1 h.2.1 (hH.arr hG) ((h.ks.2.1 _ hty).1 _ _) rfl (fun q => by cases q) (hi.ok _ _) (by rw [hi.rd _ _]; exact congrArg some hr) rfl rfl d (kk H locs ls hH hF hL)
theorem x_iast (h : Ok Γ E q) {a m : Nat} {i x : Int32} (j : Nat) (hG : G a = some (.inr (.int, m))) (hi : ix i j m) (d : decode q.2.1 pc = .ok (.iastore, 1)) (kk : X Γ E k n G z (sI M a j x) (pc + 1) L st) : X Γ E k n G z M pc L (.int x :: .int i :: .ref a :: st) := fun H locs ls hH hF hL =>
  W.iast h.1 h.2.1 (hH.arr hG) ((h.ks.2.1 .int (by decide)).1 _ _) (fun q => by cases q) (hi.ok _ _) rfl rfl d (fun H' e1 e2 e3 => kk H' _ ls (HI.upd hH e2 e3 hG (by rw [hi.2.1, arr_st_I _ rfl] at e1; exact e1) (sI_off M a j x)) (t_lc hF (hH.2.2.2 a _ hG).1) hL)
theorem x_last (h : Ok Γ E q) {a m : Nat} {i : Int32} {x : Int64} (j : Nat) (hG : G a = some (.inr (.long, m))) (hi : ix i j m) (d : decode q.2.1 pc = .ok (.lastore, 1)) (kk : X Γ E k n G z (sL M a j x) (pc + 1) L st) : X Γ E k n G z M pc L (.long x :: .int i :: .ref a :: st) := fun H locs ls hH hF hL =>
  W.last h.1 h.2.1 (hH.arr hG) ((h.ks.2.1 .long (by decide)).1 _ _) (fun q => by cases q) (hi.ok _ _) rfl rfl d (fun H' e1 e2 e3 => kk H' _ ls (HI.upd hH e2 e3 hG (by rw [hi.2.1, arr_st_L _ rfl] at e1; exact e1) (sL_off M a j x)) (t_lc hF (hH.2.2.2 a _ hG).1) hL)
theorem x_cast (h : Ok Γ E q) {a m : Nat} {i x : Int32} (j : Nat) (hG : G a = some (.inr (.char, m))) (hi : ix i j m) (hn : narrow .char (.int x) = .int x) (d : decode q.2.1 pc = .ok (.castore, 1)) (kk : X Γ E k n G z (sI M a j x) (pc + 1) L st) : X Γ E k n G z M pc L (.int x :: .int i :: .ref a :: st) := fun H locs ls hH hF hL =>
  W.cast h.1 h.2.1 (hH.arr hG) ((h.ks.2.1 .char (by decide)).1 _ _) (fun q => by cases q) (hi.ok _ _) rfl rfl d (fun H' e1 e2 e3 => kk H' _ ls (HI.upd hH e2 e3 hG (by rw [hi.2.1, hn, arr_st_I _ rfl] at e1; exact e1) (sI_off M a j x)) (t_lc hF (hH.2.2.2 a _ hG).1) hL)
theorem x_zast (h : Ok Γ E q) {a m : Nat} {i x : Int32} (j : Nat) (hG : G a = some (.inr (.boolean, m))) (hi : ix i j m) (hx : x = 0 ∨ x = 1) (d : decode q.2.1 pc = .ok (.bastore, 1)) (kk : X Γ E k n G z (sI M a j x) (pc + 1) L st) : X Γ E k n G z M pc L (.int x :: .int i :: .ref a :: st) := fun H locs ls hH hF hL =>
  W.zast h.1 h.2.1 (hH.arr hG) ((h.ks.2.1 .boolean (by decide)).1 _ _) (fun q => by cases q) (hi.ok _ _) rfl rfl d (fun H' e1 e2 e3 => kk H' _ ls (HI.upd hH e2 e3 hG (by rw [hi.2.1, show narrow .boolean (.int x) = .int x by rcases hx with rfl | rfl <;> rfl, arr_st_I _ rfl] at e1; exact e1) (sI_off M a j x)) (t_lc hF (hH.2.2.2 a _ hG).1) hL)
theorem x_aast (h : Ok Γ E q) {a m v ci : Nat} {i : Int32} (j : Nat) (hG : G a = some (.inr (.object (cR ci), m))) (hty : FieldType.object (cR ci) ∈ aTys) (hc : ci < 13) (hv : G v = some (.inl ci)) (hi : ix i j m) (d : decode q.2.1 pc = .ok (.aastore, 1)) (kk : X Γ E k n G z (sR M a j (.ref v)) (pc + 1) L st) : X Γ E k n G z M pc L (.ref v :: .int i :: .ref a :: st) := fun H locs ls hH hF hL => by
  obtain ⟨cellV, g1, g2, g3, -⟩ := (hH.2.2.2 v _ hv).2
  have hcls := (h.ks.1 ci hc).2
  obtain ⟨kA, comp, k1, k2, k3, -⟩ := (h.ks.2.1 _ hty).2
  have hcomp : comp = Γ.2.1.1 ci := Option.some.inj (k3.symm.trans hcls.1)
  subst hcomp
  obtain ⟨kC, hkC, -⟩ := hcls.2
  exact W.aast h.1 h.2.1 (hH.arr hG) (fun q h => by cases h) (fun h => by cases h) k1 k2 rfl hkC ⟨hi.1, by rw [arrV_size, hi.2.1]; exact hi.2.2⟩ g1 (fun q h => by rw [g3] at h; cases h) (by rw [g2]; exact hkC) (by rw [g2]; exact va_assign hcls) rfl rfl d (fun H' e1 e2 e3 => kk H' _ ls (HI.upd hH e2 e3 hG (by rw [hi.2.1, arr_st_R _ rfl] at e1; exact e1) (sR_off M a j (.ref v))) (t_lc hF (hH.2.2.2 a _ hG).1) hL)
/-! ends -/
theorem x_iret (h : Ok Γ E q) {P : PG} (hQ : RQ Γ E P k n) {v : Int32} (hr : q.2.2.2.1 = some .int) (d : decode q.2.1 pc = .ok (.ireturn, 1)) (hp : P (some (.int v)) G z M) : X Γ E k n G z M pc L [.int v] := fun H locs ls hH hF hL => by
  rw [hQ]
  exact W.iret h.1 h.2.1 (h.2.2.2.1.trans hr) (fun t ht _ => ⟨_, _, _, _, rfl, hp, by rw [ht]; exact hH⟩) hF d h.2.2.2.2.2.2.1
theorem x_zret (h : Ok Γ E q) {P : PG} (hQ : RQ Γ E P k n) {v : Int32} (hr : q.2.2.2.1 = some .boolean) (hv : v = 0 ∨ v = 1) (d : decode q.2.1 pc = .ok (.ireturn, 1)) (hp : P (some (.int v)) G z M) : X Γ E k n G z M pc L [.int v] := fun H locs ls hH hF hL => by
  rw [hQ]
  exact W.zret h.1 h.2.1 (h.2.2.2.1.trans hr) (by rcases hv with rfl | rfl <;> rfl) (fun t ht _ => ⟨_, _, _, _, rfl, hp, by rw [ht]; exact hH⟩) hF d h.2.2.2.2.2.2.1
theorem x_lret (h : Ok Γ E q) {P : PG} (hQ : RQ Γ E P k n) {v : Int64} (hr : q.2.2.2.1 = some .long) (d : decode q.2.1 pc = .ok (.lreturn, 1)) (hp : P (some (.long v)) G z M) : X Γ E k n G z M pc L [.long v] := fun H locs ls hH hF hL => by
  rw [hQ]
  exact W.lret h.1 h.2.1 (h.2.2.2.1.trans hr) (fun t ht _ => ⟨_, _, _, _, rfl, hp, by rw [ht]; exact hH⟩) hF d h.2.2.2.2.2.2.1
theorem x_vret (h : Ok Γ E q) {P : PG} (hQ : RQ Γ E P k n) (hr : q.2.2.2.1 = none) (d : decode q.2.1 pc = .ok (.return_, 1)) (hp : P none G z M) : X Γ E k n G z M pc L [] := fun H locs ls hH hF hL => by
  rw [hQ]
  exact W.vret h.1 h.2.1 (h.2.2.2.1.trans hr) (fun t ht _ => ⟨_, _, _, _, rfl, hp, by rw [ht]; exact hH⟩) hF d h.2.2.2.2.2.2.1
theorem x_aret (h : Ok Γ E q) {P : PG} (hQ : RQ Γ E P k n) {a : Nat} {rt : FieldType} (hr : q.2.2.2.1 = some rt) (ht : tk rt = 2) (d : decode q.2.1 pc = .ok (.areturn, 1)) (hp : P (some (.ref a)) G z M) : X Γ E k n G z M pc L [.ref a] := fun H locs ls hH hF hL => by
  rw [hQ]
  exact W.aret h.1 h.2.1 (h.2.2.2.1.trans hr) (by revert ht; cases rt <;> intro ht <;> first | exact Or.inl ⟨_, rfl⟩ | exact Or.inr ⟨_, rfl⟩ | cases ht) (Or.inr ⟨a, rfl⟩) (fun t ht _ => ⟨_, _, _, _, rfl, hp, by rw [ht]; exact hH⟩) hF d h.2.2.2.2.2.2.1
end AROWS
/-! ===== calls ===== -/
/-- what the tables say of a callee -/
def CI (q' : MD) (na : Nat) : Prop := KW (.code q'.1 q'.2.1 q'.2.2.1 q'.2.2.2.1) ∧ KW (.initialized q'.1.cls) ∧ (q'.1.cls ≠ "java/lang/invoke/MethodHandle" ∧ q'.1.cls ≠ "java/lang/invoke/VarHandle") ∧ (parseMethodDescriptor q'.1.desc).map (fun d => d.parameters.length) = some na
def IM (q' : MD) : Prop := KW (.instanceMethod q'.1) ∧ KW (.selects q'.1.cls q'.1 q'.1)
def LK (own : String) (idx : Nat) (q' : MD) : Prop := KW (.methodLink own idx q'.1) ∨ ∃ host, KW (.methodLinkNest own idx q'.1 host)
abbrev RM (q q' : MD) : Prop := q'.2.2.2.2.frames + 1 ≤ q.2.2.2.2.frames ∧ 8 + (q'.2.2.1 + 11) + q'.2.2.2.2.locals ≤ q.2.2.2.2.locals
section CROWS
variable {Γ : GT} {E : CT} {q : MD} {k n : Nat} {G : GG} {z : Nat} {M : MM} {pc : Nat} {L : List (Option Value)} {st : List Value}
theorem blind (Γ : GT) (as : List Value) (G : GG) (z : Nat) (M : MM) : FrameBlind (fun av U => av = as.toArray ∧ KS Γ U ∧ HI Γ G z M U.heap) := by
  intro a U g mk h
  exact ⟨h.1, h.2.1.same (U := U.calling g mk a) rfl, h.2.2⟩
/-- what comes behind a call -/
theorem x_behind {q' : MD} {as rest : List Value} {P : PG} {mc ms : Nat} {H : Heap} {locs : List Loc} {ls : Array Slot} (hF : ∀ q ∈ locs, Γ.2.2.2.1.size ≤ q.base) (hL : PL ls L)
    (run : va_Run E.1.1 Γ.1 E.1.2.1 E.2.2.1 E.1.2.2.1 E.1.2.2.2 E.2.1.1 E.2.1.2.1 E.2.1.2.2.1 E.2.1.2.2.2 H locs k n mc ms (F0 E.1.2.2.2 pc ls st) rest (QcOf Γ P as.toArray) (fun p => Γ.2.2.2.1.size ≤ p))
    (kk : ∀ (r : Option Value) (G' : GG) (z' : Nat) (M' : MM), P r G' z' M' → X Γ E (k + mc) (n + ms) G' z' M' (pc + 3) L (r.toList ++ rest)) :
    W E.1.1 Γ.1 E.1.2.1 E.2.2.1 E.1.2.2.1 E.1.2.2.2 E.2.1.1 E.2.1.2.1 E.2.1.2.2.1 E.2.1.2.2.2 H locs k n E.2.2.2 (F0 E.1.2.2.2 pc ls st) := by
  intro T hT Xs
  obtain ⟨v, st₀, t, T', Lc, h0, X', hLc, e1, e2, hq, stp⟩ := run T hT Xs
  obtain ⟨r, G', z', M', hv, hP, hHI⟩ := hq
  cases hv
  obtain ⟨t2, a1, b1⟩ := kk _ G' z' M' hP t.heap (locs ++ Lc) ls hHI (t_lL hF hLc) hL T' e1 X'
  exact ⟨t2, stp t2 a1, b1⟩
theorem callB' (h : Ok Γ E q) {q' : MD} {na mc ms : Nat} (ci : CI q' na) (hR : RM q q') (hrc : q'.2.2.2.2.cells = mc) (hrs : q'.2.2.2.2.slots = ms) :
    (q'.2.2.2.2.cells = mc ∧ q'.2.2.2.2.slots = ms ∧ q'.2.2.2.2.frames + 1 ≤ E.2.2.1.frames ∧ 8 + (q'.2.2.1 + 11) + q'.2.2.2.2.locals ≤ E.2.2.1.locals ∧ (∀ w ∈ [Cond.code q'.1 q'.2.1 q'.2.2.1 q'.2.2.2.1], ∀ (a' : Array Value) (U : State), E.1.2.2.1.WarmedH U.vm → w.before a' U = true) ∧ Cond.code q'.1 q'.2.1 q'.2.2.1 q'.2.2.2.1 ∈ [Cond.code q'.1 q'.2.1 q'.2.2.1 q'.2.2.2.1]) ∧
    (Cond.code q'.1 q'.2.1 q'.2.2.1 q'.2.2.2.1).before E.2.1.1 E.1.2.2.1 = true ∧ (Cond.initialized q'.1.cls).before E.2.1.1 E.1.2.2.1 = true ∧ (q'.1.cls ≠ "java/lang/invoke/MethodHandle" ∧ q'.1.cls ≠ "java/lang/invoke/VarHandle") ∧ (∀ sig, parseMethodDescriptor q'.1.desc = some sig → na = sig.parameters.length) := by
  obtain ⟨c1, c2, c3, c4⟩ := ci
  refine ⟨⟨hrc, hrs, by rw [h.2.2.2.2.1]; exact hR.1, by rw [h.2.2.2.2.1]; exact hR.2, fun w hw a' U hU => ?_, List.mem_singleton_self _⟩, h.ks.at c1, h.ks.at c2, c3, fun sig hs => ?_⟩
  · rw [List.mem_singleton] at hw
    subst hw
    exact h.ks.word c1 hU
  · rw [hs] at c4
    exact (Option.some.inj c4).symm
theorem x_invV (h : Ok Γ E q) {q' : MD} {na idx mc ms b cb : Nat} {As rest : List Value} {P : PG} (ci : CI q' na) (im : IM q') (lk : LK q.1.cls idx q') (hR : RM q q') (hrc : q'.2.2.2.2.cells = mc) (hrs : q'.2.2.2.2.slots = ms) (hk : k + mc ≤ q.2.2.2.2.cells ∧ n + ms ≤ q.2.2.2.2.slots)
    (hc : CallsG Γ q' (.ref b :: As) G z M P mc ms) (hn : As.length = na) (hst : st = As.reverse ++ .ref b :: rest) (hW : Nat.ble ((rest.map fun v => v.category).sum) 8 = true) (hLn : L.length = q.2.2.1) (hb : G b = some (.inl cb)) (hcb : cb < 13) (hcl : cR cb = q'.1.cls)
    (d : decode q.2.1 pc = .ok (.invokevirtual idx, 3)) (kk : ∀ (r : Option Value) (G' : GG) (z' : Nat) (M' : MM), P r G' z' M' → X Γ E (k + mc) (n + ms) G' z' M' (pc + 3) L (r.toList ++ rest)) : X Γ E k n G z M pc L st := fun H locs ls hH hF hL => by
  subst hst
  have hB := callB' h ci hR hrc hrs
  obtain ⟨cellB, g1, g2, g3, -⟩ := (hH.2.2.2 b _ hb).2
  have hpre : PreV E.1.2.2.1 H q'.1.cls b (fun av U => av = (Value.ref b :: As).toArray ∧ KS Γ U ∧ HI Γ G z M U.heap) As :=
    ⟨blind Γ _ G z M, ⟨cellB, g1, by rw [g3]; rfl, by rw [g2, ← hcl]; exact (h.ks.1 cb hcb).2.1⟩, fun U hU hWm => ⟨rfl, h.ks.warm hWm, by rw [hU]; exact hH⟩⟩
  have hS : CallFix E.1.1 E.1.2.2.2 E.2.1.2.2.2 q.2.1 q.2.2.1 E.1.2.2.1 E.2.1.1 [] q.1.cls := ⟨h.1, h.2.1, h.2.2.1, h.2.2.2.2.2.1, fun w hw => by cases hw⟩
  have hk' : k + mc ≤ E.2.2.1.cells ∧ n + ms ≤ E.2.2.1.slots := by rw [h.2.2.2.2.1]; exact hk
  rcases lk with hl | ⟨host, hl⟩
  · exact x_behind (q' := q') (as := Value.ref b :: As) hF hL (va_runV (C := q'.1.cls) hS hc ⟨⟨hB.1.1, hB.1.2.1, hB.1.2.2.1, hB.1.2.2.2.1, hB.1.2.2.2.2.1, hB.1.2.2.2.2.2, hB.2.1, hB.2.2.1, hB.2.2.2.1, hB.2.2.2.2, h.ks.at hl⟩, h.ks.at im.1, h.ks.at im.2⟩ hpre rfl hn (by rw [hL.1]; exact hLn) rfl (lv_room (Nat.le_of_ble_eq_true hW)) d hk') kk
  · exact x_behind (q' := q') (as := Value.ref b :: As) hF hL (va_runVN (C := q'.1.cls) hS hc ⟨⟨hB.1, hB.2.1, hB.2.2.1, hB.2.2.2.1, hB.2.2.2.2, h.ks.at hl⟩, h.ks.at im.1, h.ks.at im.2⟩ hpre rfl hn (by rw [hL.1]; exact hLn) rfl (lv_room (Nat.le_of_ble_eq_true hW)) d hk') kk
theorem x_invS (h : Ok Γ E q) {q' : MD} {na idx mc ms : Nat} {As rest : List Value} {P : PG} (ci : CI q' na) (sm : KW (.static q'.1)) (lk : LK q.1.cls idx q') (hR : RM q q') (hrc : q'.2.2.2.2.cells = mc) (hrs : q'.2.2.2.2.slots = ms) (hk : k + mc ≤ q.2.2.2.2.cells ∧ n + ms ≤ q.2.2.2.2.slots)
    (hc : CallsG Γ q' As G z M P mc ms) (hn : As.length = na) (hst : st = As.reverse ++ rest) (hW : Nat.ble ((rest.map fun v => v.category).sum) 8 = true) (hLn : L.length = q.2.2.1)
    (d : decode q.2.1 pc = .ok (.invokestatic idx, 3)) (kk : ∀ (r : Option Value) (G' : GG) (z' : Nat) (M' : MM), P r G' z' M' → X Γ E (k + mc) (n + ms) G' z' M' (pc + 3) L (r.toList ++ rest)) : X Γ E k n G z M pc L st := fun H locs ls hH hF hL => by
  subst hst
  have hB := callB' h ci hR hrc hrs
  have hpre : PreS E.1.2.2.1 H (fun av U => av = As.toArray ∧ KS Γ U ∧ HI Γ G z M U.heap) As := ⟨blind Γ _ G z M, fun U hU hWm => ⟨rfl, h.ks.warm hWm, by rw [hU]; exact hH⟩⟩
  have hS : CallFix E.1.1 E.1.2.2.2 E.2.1.2.2.2 q.2.1 q.2.2.1 E.1.2.2.1 E.2.1.1 [] q.1.cls := ⟨h.1, h.2.1, h.2.2.1, h.2.2.2.2.2.1, fun w hw => by cases hw⟩
  have hk' : k + mc ≤ E.2.2.1.cells ∧ n + ms ≤ E.2.2.1.slots := by rw [h.2.2.2.2.1]; exact hk
  rcases lk with hl | ⟨host, hl⟩
  · exact x_behind (q' := q') (as := As) hF hL (va_runS hS hc ⟨⟨hB.1.1, hB.1.2.1, hB.1.2.2.1, hB.1.2.2.2.1, hB.1.2.2.2.2.1, hB.1.2.2.2.2.2, hB.2.1, hB.2.2.1, hB.2.2.2.1, hB.2.2.2.2, h.ks.at hl⟩, h.ks.at sm⟩ hpre rfl hn (by rw [hL.1]; exact hLn) rfl (lv_room (Nat.le_of_ble_eq_true hW)) d hk') kk
  · exact x_behind (q' := q') (as := As) hF hL (va_runSN hS hc ⟨⟨hB.1, hB.2.1, hB.2.2.1, hB.2.2.2.1, hB.2.2.2.2, h.ks.at hl⟩, h.ks.at sm, trivial⟩ hpre rfl hn (by rw [hL.1]; exact hLn) rfl (lv_room (Nat.le_of_ble_eq_true hW)) d hk') kk
theorem x_invI (h : Ok Γ E q) {q' : MD} {na idx mc ms b : Nat} {As rest : List Value} {P : PG} (ci : CI q' na) (im : KW (.instanceMethod q'.1)) (hini : q'.1.name = "<init>") (hret : q'.2.2.2.1 = none) (lk : LK q.1.cls idx q') (hR : RM q q') (hrc : q'.2.2.2.2.cells = mc) (hrs : q'.2.2.2.2.slots = ms) (hk : k + mc ≤ q.2.2.2.2.cells ∧ n + ms ≤ q.2.2.2.2.slots)
    (hc : CallsG Γ q' (.ref b :: As) G z M P mc ms) (hn : As.length = na) (hst : st = As.reverse ++ .ref b :: rest) (hW : Nat.ble ((rest.map fun v => v.category).sum) 8 = true) (hLn : L.length = q.2.2.1)
    (d : decode q.2.1 pc = .ok (.invokespecial idx, 3)) (kk : ∀ (r : Option Value) (G' : GG) (z' : Nat) (M' : MM), P r G' z' M' → X Γ E (k + mc) (n + ms) G' z' M' (pc + 3) L (r.toList ++ rest)) : X Γ E k n G z M pc L st := fun H locs ls hH hF hL => by
  subst hst
  obtain ⟨y, cc, mL, ret, rm⟩ := q'
  simp only at hret
  subst hret
  have hB := callB' h ci hR hrc hrs
  have hpre : PreS E.1.2.2.1 H (fun av U => av = (Value.ref b :: As).toArray ∧ KS Γ U ∧ HI Γ G z M U.heap) (.ref b :: As) := ⟨blind Γ _ G z M, fun U hU hWm => ⟨rfl, h.ks.warm hWm, by rw [hU]; exact hH⟩⟩
  have hS : CallFix E.1.1 E.1.2.2.2 E.2.1.2.2.2 q.2.1 q.2.2.1 E.1.2.2.1 E.2.1.1 [] q.1.cls := ⟨h.1, h.2.1, h.2.2.1, h.2.2.2.2.2.1, fun w hw => by cases hw⟩
  have hk' : k + mc ≤ E.2.2.1.cells ∧ n + ms ≤ E.2.2.1.slots := by rw [h.2.2.2.2.1]; exact hk
  rcases lk with hl | ⟨host, hl⟩
  · exact x_behind (q' := (y, cc, mL, none, rm)) (as := Value.ref b :: As) hF hL (va_runI hS hc ⟨⟨hB.1.1, hB.1.2.1, hB.1.2.2.1, hB.1.2.2.2.1, hB.1.2.2.2.2.1, hB.1.2.2.2.2.2, hB.2.1, hB.2.2.1, hB.2.2.2.1, hB.2.2.2.2, h.ks.at hl⟩, hini, h.ks.at im⟩ hpre rfl hn (by rw [hL.1]; exact hLn) rfl (lv_room (Nat.le_of_ble_eq_true hW)) d hk') kk
  · exact x_behind (q' := (y, cc, mL, none, rm)) (as := Value.ref b :: As) hF hL (va_runIN hS hc ⟨⟨hB.1, hB.2.1, hB.2.2.1, hB.2.2.2.1, hB.2.2.2.2, h.ks.at hl⟩, hini, h.ks.at im⟩ hpre rfl hn (by rw [hL.1]; exact hLn) rfl (lv_room (Nat.le_of_ble_eq_true hW)) d hk') kk
end CROWS
