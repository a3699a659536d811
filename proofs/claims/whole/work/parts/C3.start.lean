/-! THE CLAIM OUT OF ONE WALK OF THE LAW'S BODY. Your part is whole_start (and what it stands on); all else here is the same for every law, but numbers. -/
def R_law : String := "LoopGuessesLaw"
def lw_P (b : Addr) (xs : List Int32) (args : Array Value) (s : State) : Prop := args = #[.ref b] ∧ s.IntsAt b xs ∧ xs.length ≤ 2048 ∧ (Jvm.Cond.and given_1 narrow_1).before args s = true
def lw_Q (_ : Array Value) (s : State) (o : Outcome) (t : State) : Prop := o = .returned (some (.int 1)) ∧ Framed s o t [] 600000 7302250
def lw_Z (below : List Frame) (a : Array Value) (s : State) : State → Prop := fun t => ∃ o, t.status = .running ∧ Ended t below o ∧ lw_Q a s o t
/-- the law's own end, with 1 on the stack, nothing written that was there before, its room as the claim has it -/
theorem lw_ret {p : Program} {l : Launch} {e : Env} {s : State} {m : MethodId} {below : List Frame} {meth : Method} {c : Code} {b : Nat} (hx : p.tables.exec = Jvm.exec) (hb : c.code = code) (hr : meth.sig.returnType = ret) (hlocks : meth.locks = false) {pc : Nat} {H : Heap} {ls : Array Slot} (hdg : decode code pc = .ok (.ireturn, 1)) : W p l e room_1 s m #[Value.ref b] below meth c H [] 600000 7302250 (lw_Z below #[Value.ref b] s) (F0 m pc ls [.int 1]) := by
  intro T hT X
  obtain ⟨fs, hret, hrun, hended, hW, hframe⟩ := X.leave (v := some (.int 1)) (hlocks := hlocks) (fun h => by rw [hr] at h; cases h)
  have hmeth' : T.vm.method? m = some meth := X.method'
  refine ⟨T.setFrames fs, ?_, .returned (some (.int 1)), hrun, hended, rfl, ⟨_, rfl⟩, hW, hframe⟩
  jvm_step X.here [X.here.top, hx, hb, hdg, hmeth', hr, ret, narrow_b1]
  (try refine ⟨rfl, ?_⟩); (try refine ⟨rfl, ?_⟩)
  first | (intro acts; rw [hret _ acts rfl rfl rfl]) | rw [hret _ _ rfl rfl rfl]
  exact Steps.refl _
/-- what holds at the law's entry: the machine, the code, the tables' words (any of lw_tbl by 'hts w (by decide +kernel)'), the script of L ints xs at the cell b, what the Statement gives of the start (any of its parts by flat_of_before) -/
def lw_At (p : Program) (s : State) (m : MethodId) (meth : Method) (c : Code) (b L : Nat) (xs : Nat → Int32) : Prop :=
  p.tables.exec = Jvm.exec ∧ c.code = code ∧ meth.sig.returnType = ret ∧ c.maxLocals = 4 ∧ s.vm.findClass R_law = some m.cls ∧ (∀ w ∈ lw_tbl, w.before #[Value.ref b] s = true) ∧ va_X b L xs s s.heap ∧ b < s.heap.size ∧ meth.locks = false ∧ (Jvm.Cond.and given_1 narrow_1).before #[Value.ref b] s = true
theorem mk_all : ∀ ci, ci < 13 → KW (.instantiable (cR ci) (cN ci))
  | 0, _ => mk_X0
  | 1, _ => mk_X1
  | 2, _ => mk_X2
  | 3, _ => mk_X3
  | 4, _ => mk_X4
  | 5, _ => mk_X5
  | 6, _ => mk_X6
  | 7, _ => mk_X7
  | 8, _ => mk_X8
  | 9, _ => mk_X9
  | 10, _ => mk_X10
  | 11, _ => mk_X11
  | 12, _ => mk_X12
  | n + 13, h => absurd h (by omega)
theorem kz_fac : Cond.laysStatic "LoopGuesses" "FACTORIALS" "[I" ∈ lw_tbl := List.mem_append_right _ (List.mem_of_getElem? (i := 805) (by decide +kernel))
theorem ar_p {s : State} {ty : FieldType} (h : va_Nw (.arrayClass ty) s) : ∃ cA, ArrOfT s cA ty ∧ s.vm.findClass ("[" ++ ty.toString) = some cA := by
  obtain ⟨cA, kA, comp, h1, h2, h3⟩ := Cond.arrayClass_spec h
  exact ⟨cA, fun n z => ⟨(fun k q => by cases q), kA, h2, comp, h3⟩, h1⟩
theorem ar_o {s : State} {C : String} (h : va_Nw (.arrayOver (.object C)) s) : ∃ cA, ArrOfT s cA (.object C) ∧ va_RA s cA (.object C) := by
  obtain ⟨comp, cA, kA, h1, h2, h3, h4, h5⟩ := Cond.arrayOver_spec h
  exact ⟨cA, fun n z => ⟨(fun k q => by cases q), kA, h3, comp, h4⟩, kA, comp, h3, h4, h1, h5⟩
theorem ar_all {s : State} (hw : ∀ w, KW w → va_Nw w s) : ∀ ty ∈ aTys, ∃ cA, ArrOfT s cA ty ∧ va_RA s cA ty := by
  unfold aTys
  refine List.forall_mem_cons.mpr ⟨ar_p (hw _ ac_char), List.forall_mem_cons.mpr ⟨ar_p (hw _ ac_int), List.forall_mem_cons.mpr ⟨ar_p (hw _ ac_long), List.forall_mem_cons.mpr ⟨ar_p (hw _ ac_boolean), List.forall_mem_cons.mpr ⟨ar_o (hw _ ao_X3), List.forall_mem_cons.mpr ⟨ar_o (hw _ ao_X9), List.forall_mem_cons.mpr ⟨ar_o (hw _ ao_X10), fun _ h => absurd h List.not_mem_nil⟩⟩⟩⟩⟩⟩⟩
/-- the tables, the classes, the array classes and the table of factorials, at the law's entry -/
theorem ks_start {p : Program} {s : State} {m : MethodId} {meth : Method} {c : Code} (l : Launch) {b L : Nat} {xs : Nat → Int32} (C0 : lw_At p s m meth c b L xs) : ∃ (D : va_G) (arrC : FieldType → ClassId) (fac : Nat), KS (l, D, arrC, s.heap, fac) s := by
  obtain ⟨-, -, -, -, -, hts, -, -, -, hgv⟩ := C0
  have hw : ∀ w, KW w → va_Nw w s := fun w hw => wOK_at hw.2 (State.WarmedH.refl s) (hts w hw.1)
  have hcl : ∀ ci, ∃ q : ClassId × (Nat → Nat), ci < 13 → u_Kn s (cR ci) (cT ci) (cN ci) q.1 q.2 := by
    intro ci
    by_cases hc : ci < 13
    · obtain ⟨cC, iS, h⟩ := u_known (ws := lw_tbl) hts (fun w q => (cT_in ci hc w q).1) (hts _ (mk_all ci hc).1)
      exact ⟨(cC, iS), fun _ => h⟩
    · exact ⟨(m.cls, fun _ => 0), fun h => absurd h hc⟩
  have har : ∀ ty, ∃ cA : ClassId, ty ∈ aTys → ArrOfT s cA ty ∧ va_RA s cA ty := by
    intro ty
    by_cases ht : ty ∈ aTys
    · obtain ⟨cA, h⟩ := ar_all hw ty ht
      exact ⟨cA, fun _ => h⟩
    · exact ⟨m.cls, fun h => absurd h ht⟩
  have hs := flat_of_before _ hgv
  have hA : ∀ a : Nat, a < s.heap.size → ¬ (s.heap.size ≤ a) := fun a h => Nat.not_le_of_lt h
  have f0 : (Cond.arrayOf (.static "LoopGuesses" "FACTORIALS" "[I") .int).before #[Value.ref b] s = true := hs _ (by decide +kernel)
  have f1 : (Cond.eq (.length (.static "LoopGuesses" "FACTORIALS" "[I")) (.int 6)).before #[Value.ref b] s = true := hs _ (by decide +kernel)
  have e0 : (Cond.eq (.elem (.static "LoopGuesses" "FACTORIALS" "[I") (.int 0)) (.int 1)).before #[Value.ref b] s = true := hs _ (by decide +kernel)
  have e1 : (Cond.eq (.elem (.static "LoopGuesses" "FACTORIALS" "[I") (.int 1)) (.int 1)).before #[Value.ref b] s = true := hs _ (by decide +kernel)
  have e2 : (Cond.eq (.elem (.static "LoopGuesses" "FACTORIALS" "[I") (.int 2)) (.int 2)).before #[Value.ref b] s = true := hs _ (by decide +kernel)
  have e3 : (Cond.eq (.elem (.static "LoopGuesses" "FACTORIALS" "[I") (.int 3)) (.int 6)).before #[Value.ref b] s = true := hs _ (by decide +kernel)
  have e4 : (Cond.eq (.elem (.static "LoopGuesses" "FACTORIALS" "[I") (.int 4)) (.int 24)).before #[Value.ref b] s = true := hs _ (by decide +kernel)
  have e5 : (Cond.eq (.elem (.static "LoopGuesses" "FACTORIALS" "[I") (.int 5)) (.int 120)).before #[Value.ref b] s = true := hs _ (by decide +kernel)
  have hel : ∀ j : Nat, j < 6 → (Term.elem (.static "LoopGuesses" "FACTORIALS" "[I") (.int (Int32.ofNat j))).eval #[Value.ref b] s none [] s = some (.int (facT j)) := by
    intro j hj
    match j, hj with
    | 0, _ => exact va_eqt e0
    | 1, _ => exact va_eqt e1
    | 2, _ => exact va_eqt e2
    | 3, _ => exact va_eqt e3
    | 4, _ => exact va_eqt e4
    | 5, _ => exact va_eqt e5
    | n + 6, hj => omega
  obtain ⟨fac, k1, k2⟩ := va_Tof (tm := .static "LoopGuesses" "FACTORIALS" "[I") (ty := .int) (N := 6) (f := fun j => .int (facT j)) (A := fun q => s.heap.size ≤ q) (by decide) f0 (va_eqt f1) hel hA
  have k3 := va_Zof (hts _ kz_fac) (hts _ ini_X11.1) k1 hA
  exact ⟨(fun ci => (Classical.choose (hcl ci)).1, fun ci => (Classical.choose (hcl ci)).2), fun ty => Classical.choose (har ty), fac, fun ci hc => Classical.choose_spec (hcl ci) hc, fun ty ht => Classical.choose_spec (har ty) ht, hw, k3, k2⟩
theorem whole_start {p : Program} {e : Env} {s : State} {m : MethodId} {below : List Frame} {meth : Method} {c : Code} (l : Launch) (hflags : l.flags = flags0) {b L : Nat} {xs : Nat → Int32} (hL : L ≤ 2048) (C0 : lw_At p s m meth c b L xs) : W p l e room_1 s m #[Value.ref b] below meth c s.heap [] 0 0 (lw_Z below #[Value.ref b] s) (entryFrame m ([Value.ref b] : List Value).toArray 4) := by
  obtain ⟨D, arrC, fac, hK⟩ := ks_start l C0
  obtain ⟨c1, c2, c3, c4, c5, c6, c7, c8, c9, c10⟩ := C0
  have hO : Ok (l, D, arrC, s.heap, fac) ((p, e, s, m), (#[Value.ref b], below, meth, c), room_1, lw_Z below #[Value.ref b] s) (q_L meth.name) := ⟨c1, c2, c4, c3, rfl, c5, c9, rfl, hK⟩
  have w := law_all (z := s.heap.size) (M := (fun _ _ => 0, fun _ _ => 0, fun _ _ => .null)) hO c7 hL (fun k n G z M L hk H locs ls hH hF hP => va_forget hF (W.widen hk.1 hk.2 (lw_ret c1 c2 c3 c9 dL_law_799)))
  rw [lg_entry_eq]
  exact w s.heap [] _ ⟨rfl, Nat.le_refl _, fun _ _ => rfl, fun a kd h => by cases h⟩ (fun q h => by cases h) (PL.entry [Value.ref b] (n := 4) (Nat.le_of_ble_eq_true rfl))
