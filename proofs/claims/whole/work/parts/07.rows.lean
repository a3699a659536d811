/-! ===== THE JUDGEMENT: the machine at a place of a method, over a memory ===== -/
/-- a method: name, code, locals, result, room -/
abbrev MD : Type := MethodName × ByteArray × Nat × Option FieldType × Room
/-- the machine's fixed things in one method's run -/
abbrev CT : Type := (Program × Env × State × MethodId) × (Array Value × List Frame × Method × Code) × Room × (State → Prop)
def X (Γ : GT) (E : CT) (k n : Nat) (G : GG) (z : Nat) (M : MM) (pc : Nat) (L : List (Option Value)) (st : List Value) : Prop :=
  ∀ (H : Heap) (locs : List Loc) (ls : Array Slot), HI Γ G z M H → (∀ q ∈ locs, Γ.2.2.2.1.size ≤ q.base) → PL ls L → W E.1.1 Γ.1 E.1.2.1 E.2.2.1 E.1.2.2.1 E.1.2.2.2 E.2.1.1 E.2.1.2.1 E.2.1.2.2.1 E.2.1.2.2.2 H locs k n E.2.2.2 (F0 E.1.2.2.2 pc ls st)
def Ok (Γ : GT) (E : CT) (q : MD) : Prop := E.1.1.tables.exec = Jvm.exec ∧ E.2.1.2.2.2.code = q.2.1 ∧ E.2.1.2.2.2.maxLocals = q.2.2.1 ∧ E.2.1.2.2.1.sig.returnType = q.2.2.2.1 ∧ E.2.2.1 = q.2.2.2.2 ∧ E.1.2.2.1.vm.findClass q.1.cls = some E.1.2.2.2.cls ∧ E.2.1.2.2.1.locks = false ∧ E.2.1.2.2.1.name = q.1.name ∧ KS Γ E.1.2.2.1
/-- what a method's end says -/
abbrev PG : Type := Option Value → GG → Nat → MM → Prop
def QcOf (Γ : GT) (P : PG) : Array Value → State → Outcome → State → Prop := fun _ _ o t => ∃ (r : Option Value) (G' : GG) (z' : Nat) (M' : MM), o = .returned r ∧ P r G' z' M' ∧ HI Γ G' z' M' t.heap
def RQ (Γ : GT) (E : CT) (P : PG) (k n : Nat) : Prop := E.2.2.2 = MQ E.2.1.2.1 (QcOf Γ P) E.2.1.1 E.1.2.2.1 k n (fun q => Γ.2.2.2.1.size ≤ q)
/-- a contract: from this memory the method returns, with P -/
def CallsG (Γ : GT) (q : MD) (as : List Value) (G : GG) (z : Nat) (M : MM) (P : PG) (mc ms : Nat) : Prop :=
  Met Γ.1 q.1 [.code q.1 q.2.1 q.2.2.1 q.2.2.2.1] q.2.2.2.2 (fun av U => av = as.toArray ∧ KS Γ U ∧ HI Γ G z M U.heap) (QcOf Γ P) mc ms (fun p => Γ.2.2.2.1.size ≤ p)
/-- a contract of a method that makes no cell -/
def Calls (Γ : GT) (q : MD) (as : List Value) (G : GG) (M : MM) (P : Option Value → MM → Prop) : Prop := ∀ z, CallsG Γ q as G z M (fun r G' z' M' => G' = G ∧ z' = z ∧ P r M') 0 0
theorem CallsG.intro {Γ : GT} {q : MD} {as : List Value} {G : GG} {z : Nat} {M : MM} {P : PG} {mc ms : Nat} (hy : plainName q.1.cls = true) (hl : (entA as).length ≤ q.2.2.1)
    (body : ∀ E : CT, Ok Γ E q → RQ Γ E P mc ms → X Γ E 0 0 G z M 0 (entL as q.2.2.1) []) : CallsG Γ q as G z M P mc ms := by
  refine Met.ofW (cc := q.2.1) (maxL := q.2.2.1) (ret := q.2.2.2.1) hy rfl ?_
  intro p e s m args below meth c s₁ B hml hv
  obtain ⟨rfl, hK, hH⟩ := hv
  have := body ((p, e, s, m), (as.toArray, below, meth, c), q.2.2.2.2, MQ below (QcOf Γ P) as.toArray s mc ms (fun p => Γ.2.2.2.1.size ≤ p)) ⟨B.exec, B.bytes, hml, B.returns, rfl, findClass_of_methodNamed B.named, B.notSynchronized, (name_of_methodNamed B.named B.method).1, hK⟩ rfl
  rw [lg_entry_eq]
  exact this s.heap [] _ hH (fun q h => by cases h) (PL.entry as hl)
theorem Calls.intro {Γ : GT} {q : MD} {as : List Value} {G : GG} {M : MM} {P : Option Value → MM → Prop} (hy : plainName q.1.cls = true) (hl : (entA as).length ≤ q.2.2.1)
    (body : ∀ (z : Nat) (E : CT), Ok Γ E q → RQ Γ E (fun r G' z' M' => G' = G ∧ z' = z ∧ P r M') 0 0 → X Γ E 0 0 G z M 0 (entL as q.2.2.1) []) : Calls Γ q as G M P := fun z => CallsG.intro hy hl (body z)
section ROWS
variable {Γ : GT} {E : CT} {q : MD} {k n : Nat} {G : GG} {z : Nat} {M : MM} {pc : Nat} {L : List (Option Value)} {st : List Value}

theorem x_icm1 (h : Ok Γ E q) (d : decode q.2.1 pc = .ok (.iconst (-1), 1)) (kk : X Γ E k n G z M (pc + 1) L (.int (-1) :: st)) : X Γ E k n G z M pc L st :=
  fun H locs ls hH hF hL => lv_iconst (v := -1) h.1 h.2.1 d (by decide) (kk H locs ls hH hF hL)
theorem x_ic0 (h : Ok Γ E q) (d : decode q.2.1 pc = .ok (.iconst (0), 1)) (kk : X Γ E k n G z M (pc + 1) L (.int (0) :: st)) : X Γ E k n G z M pc L st :=
  fun H locs ls hH hF hL => lv_iconst (v := 0) h.1 h.2.1 d (by decide) (kk H locs ls hH hF hL)
theorem x_ic1 (h : Ok Γ E q) (d : decode q.2.1 pc = .ok (.iconst (1), 1)) (kk : X Γ E k n G z M (pc + 1) L (.int (1) :: st)) : X Γ E k n G z M pc L st :=
  fun H locs ls hH hF hL => lv_iconst (v := 1) h.1 h.2.1 d (by decide) (kk H locs ls hH hF hL)
theorem x_ic2 (h : Ok Γ E q) (d : decode q.2.1 pc = .ok (.iconst (2), 1)) (kk : X Γ E k n G z M (pc + 1) L (.int (2) :: st)) : X Γ E k n G z M pc L st :=
  fun H locs ls hH hF hL => lv_iconst (v := 2) h.1 h.2.1 d (by decide) (kk H locs ls hH hF hL)
theorem x_ic3 (h : Ok Γ E q) (d : decode q.2.1 pc = .ok (.iconst (3), 1)) (kk : X Γ E k n G z M (pc + 1) L (.int (3) :: st)) : X Γ E k n G z M pc L st :=
  fun H locs ls hH hF hL => lv_iconst (v := 3) h.1 h.2.1 d (by decide) (kk H locs ls hH hF hL)
theorem x_ic4 (h : Ok Γ E q) (d : decode q.2.1 pc = .ok (.iconst (4), 1)) (kk : X Γ E k n G z M (pc + 1) L (.int (4) :: st)) : X Γ E k n G z M pc L st :=
  fun H locs ls hH hF hL => lv_iconst (v := 4) h.1 h.2.1 d (by decide) (kk H locs ls hH hF hL)
theorem x_ic5 (h : Ok Γ E q) (d : decode q.2.1 pc = .ok (.iconst (5), 1)) (kk : X Γ E k n G z M (pc + 1) L (.int (5) :: st)) : X Γ E k n G z M pc L st :=
  fun H locs ls hH hF hL => lv_iconst (v := 5) h.1 h.2.1 d (by decide) (kk H locs ls hH hF hL)
theorem x_bipush (h : Ok Γ E q) {c : Int} (v : Int32) (hv : (Int8.ofInt c).toInt32 = v) (d : decode q.2.1 pc = .ok (.bipush c, 2)) (kk : X Γ E k n G z M (pc + 2) L (.int v :: st)) : X Γ E k n G z M pc L st :=
  fun H locs ls hH hF hL => lv_bipush h.1 h.2.1 d hv (kk H locs ls hH hF hL)
theorem x_sipush (h : Ok Γ E q) {c : Int} (v : Int32) (hv : (Int16.ofInt c).toInt32 = v) (d : decode q.2.1 pc = .ok (.sipush c, 3)) (kk : X Γ E k n G z M (pc + 3) L (.int v :: st)) : X Γ E k n G z M pc L st :=
  fun H locs ls hH hF hL => lv_sipush h.1 h.2.1 d hv (kk H locs ls hH hF hL)
theorem x_lc0 (h : Ok Γ E q) (d : decode q.2.1 pc = .ok (.lconst 0, 1)) (kk : X Γ E k n G z M (pc + 1) L (.long 0 :: st)) : X Γ E k n G z M pc L st :=
  fun H locs ls hH hF hL => lv_lconst (v := 0) h.1 h.2.1 d (by decide) (kk H locs ls hH hF hL)
theorem x_lc1 (h : Ok Γ E q) (d : decode q.2.1 pc = .ok (.lconst 1, 1)) (kk : X Γ E k n G z M (pc + 1) L (.long 1 :: st)) : X Γ E k n G z M pc L st :=
  fun H locs ls hH hF hL => lv_lconst (v := 1) h.1 h.2.1 d (by decide) (kk H locs ls hH hF hL)
theorem x_ldc2 (h : Ok Γ E q) {idx : Nat} {v : Int64} (hw : KW (Cond.constantLong q.1.cls idx v)) (d : decode q.2.1 pc = .ok (.ldc2_w idx, 3)) (kk : X Γ E k n G z M (pc + 3) L (.long v :: st)) : X Γ E k n G z M pc L st :=
  fun H locs ls hH hF hL => lv_ldc2 h.1 h.2.1 h.2.2.2.2.2.1 (h.2.2.2.2.2.2.2.2.at hw) d (kk H locs ls hH hF hL)
theorem x_iload_n (h : Ok Γ E q) {i : Fin 4} {x : Int32} (d : decode q.2.1 pc = .ok (.iload_n i, 1)) (hv : L[(i : Nat)]? = some (some (.int x))) (kk : X Γ E k n G z M (pc + 1) L (.int x :: st)) : X Γ E k n G z M pc L st :=
  fun H locs ls hH hF hL => lv_iload_n h.1 h.2.1 d rfl (hL.2.2 _ _ hv) (kk H locs ls hH hF hL)
theorem x_iload (h : Ok Γ E q) {i : Nat} {x : Int32} (d : decode q.2.1 pc = .ok (.iload i, 2)) (hv : L[i]? = some (some (.int x))) (kk : X Γ E k n G z M (pc + 2) L (.int x :: st)) : X Γ E k n G z M pc L st :=
  fun H locs ls hH hF hL => lv_iload h.1 h.2.1 d (hL.2.2 _ _ hv) (kk H locs ls hH hF hL)
theorem x_istore_n (h : Ok Γ E q) {i : Fin 4} {x : Int32} (d : decode q.2.1 pc = .ok (.istore_n i, 1)) (hi : Nat.blt (i : Nat) L.length = true) (hc : chk1 L (i : Nat) = true) (kk : X Γ E k n G z M (pc + 1) (L.set (i : Nat) (some (.int x))) st) : X Γ E k n G z M pc L (.int x :: st) :=
  fun H locs ls hH hF hL => lv_istore_n h.1 h.2.1 d rfl hL.has (Nat.le_of_ble_eq_true hi) rfl (fun ls2 h2 => kk H locs ls2 hH hF (PL.store1 hc h2))
theorem x_istore (h : Ok Γ E q) {i : Nat} {x : Int32} (d : decode q.2.1 pc = .ok (.istore i, 2)) (hi : Nat.blt i L.length = true) (hc : chk1 L i = true) (kk : X Γ E k n G z M (pc + 2) (L.set i (some (.int x))) st) : X Γ E k n G z M pc L (.int x :: st) :=
  fun H locs ls hH hF hL => lv_istore h.1 h.2.1 d hL.has (Nat.le_of_ble_eq_true hi) rfl (fun ls2 h2 => kk H locs ls2 hH hF (PL.store1 hc h2))
theorem x_lload_n (h : Ok Γ E q) {i : Fin 4} {x : Int64} (d : decode q.2.1 pc = .ok (.lload_n i, 1)) (hv : L[(i : Nat)]? = some (some (.long x))) (kk : X Γ E k n G z M (pc + 1) L (.long x :: st)) : X Γ E k n G z M pc L st :=
  fun H locs ls hH hF hL => lv_lload_n h.1 h.2.1 d rfl (hL.2.2 _ _ hv) (kk H locs ls hH hF hL)
theorem x_lload (h : Ok Γ E q) {i : Nat} {x : Int64} (d : decode q.2.1 pc = .ok (.lload i, 2)) (hv : L[i]? = some (some (.long x))) (kk : X Γ E k n G z M (pc + 2) L (.long x :: st)) : X Γ E k n G z M pc L st :=
  fun H locs ls hH hF hL => lv_lload h.1 h.2.1 d (hL.2.2 _ _ hv) (kk H locs ls hH hF hL)
theorem x_lstore_n (h : Ok Γ E q) {i : Fin 4} {x : Int64} (d : decode q.2.1 pc = .ok (.lstore_n i, 1)) (hi : Nat.blt ((i : Nat) + 1) L.length = true) (hc : chk1 L (i : Nat) = true) (kk : X Γ E k n G z M (pc + 1) ((L.set (i : Nat) (some (.long x))).set ((i : Nat) + 1) none) st) : X Γ E k n G z M pc L (.long x :: st) :=
  fun H locs ls hH hF hL => lv_lstore_n h.1 h.2.1 d rfl hL.has (Nat.le_of_ble_eq_true hi) rfl (fun ls2 h2 => kk H locs ls2 hH hF (PL.store2 hc h2))
theorem x_lstore (h : Ok Γ E q) {i : Nat} {x : Int64} (d : decode q.2.1 pc = .ok (.lstore i, 2)) (hi : Nat.blt (i + 1) L.length = true) (hc : chk1 L i = true) (kk : X Γ E k n G z M (pc + 2) ((L.set i (some (.long x))).set (i + 1) none) st) : X Γ E k n G z M pc L (.long x :: st) :=
  fun H locs ls hH hF hL => lv_lstore h.1 h.2.1 d hL.has (Nat.le_of_ble_eq_true hi) rfl (fun ls2 h2 => kk H locs ls2 hH hF (PL.store2 hc h2))
theorem x_aload_n (h : Ok Γ E q) {i : Fin 4} {x : Nat} (d : decode q.2.1 pc = .ok (.aload_n i, 1)) (hv : L[(i : Nat)]? = some (some (.ref x))) (kk : X Γ E k n G z M (pc + 1) L (.ref x :: st)) : X Γ E k n G z M pc L st :=
  fun H locs ls hH hF hL => lv_aload_n h.1 h.2.1 d rfl (hL.2.2 _ _ hv) (kk H locs ls hH hF hL)
theorem x_aload (h : Ok Γ E q) {i : Nat} {x : Nat} (d : decode q.2.1 pc = .ok (.aload i, 2)) (hv : L[i]? = some (some (.ref x))) (kk : X Γ E k n G z M (pc + 2) L (.ref x :: st)) : X Γ E k n G z M pc L st :=
  fun H locs ls hH hF hL => lv_aload h.1 h.2.1 d (hL.2.2 _ _ hv) (kk H locs ls hH hF hL)
theorem x_astore_n (h : Ok Γ E q) {i : Fin 4} {x : Nat} (d : decode q.2.1 pc = .ok (.astore_n i, 1)) (hi : Nat.blt (i : Nat) L.length = true) (hc : chk1 L (i : Nat) = true) (kk : X Γ E k n G z M (pc + 1) (L.set (i : Nat) (some (.ref x))) st) : X Γ E k n G z M pc L (.ref x :: st) :=
  fun H locs ls hH hF hL => lv_astore_n h.1 h.2.1 d rfl hL.has (Nat.le_of_ble_eq_true hi) rfl (fun ls2 h2 => kk H locs ls2 hH hF (PL.store1 hc h2))
theorem x_astore (h : Ok Γ E q) {i : Nat} {x : Nat} (d : decode q.2.1 pc = .ok (.astore i, 2)) (hi : Nat.blt i L.length = true) (hc : chk1 L i = true) (kk : X Γ E k n G z M (pc + 2) (L.set i (some (.ref x))) st) : X Γ E k n G z M pc L (.ref x :: st) :=
  fun H locs ls hH hF hL => lv_astore h.1 h.2.1 d hL.has (Nat.le_of_ble_eq_true hi) rfl (fun ls2 h2 => kk H locs ls2 hH hF (PL.store1 hc h2))
theorem prs_at {L : List (Option Value)} {i : Nat} {v : Value} (h : L[i]? = some (some v)) : ∃ k : Nat, (prs 0 L)[k]? = some (i, v) := List.getElem?_of_mem ((mem_prs L 0 i v).mpr ⟨Nat.zero_le _, by simpa using h⟩)
theorem x_iinc (h : Ok Γ E q) {i : Nat} {c : Int} {x : Int32} (v : Int32) (hv : Int32.ofInt c = v) (d : decode q.2.1 pc = .ok (.iinc i c, 3)) (hx : L[i]? = some (some (.int x))) (hi : Nat.blt i L.length = true) (hc : chk1 L i = true) (kk : X Γ E k n G z M (pc + 3) (L.set i (some (.int (x + v)))) st) : X Γ E k n G z M pc L st := fun H locs ls hH hF hL => by
  obtain ⟨j, hj⟩ := prs_at hx
  exact lv_iinc h.1 h.2.1 d hL.has hj (by rw [hv]) (Nat.le_of_ble_eq_true hi) rfl (fun ls2 h2 => kk H locs ls2 hH hF (PL.store1 hc h2))
theorem x_iadd (h : Ok Γ E q) {x y : Int32} (d : decode q.2.1 pc = .ok (.iadd, 1)) (kk : X Γ E k n G z M (pc + 1) L (.int (x + y) :: st)) : X Γ E k n G z M pc L (.int y :: .int x :: st) :=
  fun H locs ls hH hF hL => lv_iadd h.1 h.2.1 d  (kk H locs ls hH hF hL)
theorem x_isub (h : Ok Γ E q) {x y : Int32} (d : decode q.2.1 pc = .ok (.isub, 1)) (kk : X Γ E k n G z M (pc + 1) L (.int (x - y) :: st)) : X Γ E k n G z M pc L (.int y :: .int x :: st) :=
  fun H locs ls hH hF hL => lv_isub h.1 h.2.1 d  (kk H locs ls hH hF hL)
theorem x_imul (h : Ok Γ E q) {x y : Int32} (d : decode q.2.1 pc = .ok (.imul, 1)) (kk : X Γ E k n G z M (pc + 1) L (.int (x * y) :: st)) : X Γ E k n G z M pc L (.int y :: .int x :: st) :=
  fun H locs ls hH hF hL => lv_imul h.1 h.2.1 d  (kk H locs ls hH hF hL)
theorem x_iand (h : Ok Γ E q) {x y : Int32} (d : decode q.2.1 pc = .ok (.iand, 1)) (kk : X Γ E k n G z M (pc + 1) L (.int (x &&& y) :: st)) : X Γ E k n G z M pc L (.int y :: .int x :: st) :=
  fun H locs ls hH hF hL => lv_iand h.1 h.2.1 d  (kk H locs ls hH hF hL)
theorem x_ior (h : Ok Γ E q) {x y : Int32} (d : decode q.2.1 pc = .ok (.ior, 1)) (kk : X Γ E k n G z M (pc + 1) L (.int (x ||| y) :: st)) : X Γ E k n G z M pc L (.int y :: .int x :: st) :=
  fun H locs ls hH hF hL => lv_ior h.1 h.2.1 d  (kk H locs ls hH hF hL)
theorem x_ixor (h : Ok Γ E q) {x y : Int32} (d : decode q.2.1 pc = .ok (.ixor, 1)) (kk : X Γ E k n G z M (pc + 1) L (.int (x ^^^ y) :: st)) : X Γ E k n G z M pc L (.int y :: .int x :: st) :=
  fun H locs ls hH hF hL => lv_ixor h.1 h.2.1 d  (kk H locs ls hH hF hL)
theorem x_ineg (h : Ok Γ E q) {x : Int32} (d : decode q.2.1 pc = .ok (.ineg, 1)) (kk : X Γ E k n G z M (pc + 1) L (.int (-x) :: st)) : X Γ E k n G z M pc L (.int x :: st) :=
  fun H locs ls hH hF hL => lv_ineg h.1 h.2.1 d  (kk H locs ls hH hF hL)
theorem x_idiv (h : Ok Γ E q) {x y : Int32} (hne : ¬ y = 0) (d : decode q.2.1 pc = .ok (.idiv, 1)) (kk : X Γ E k n G z M (pc + 1) L (.int (x / y) :: st)) : X Γ E k n G z M pc L (.int y :: .int x :: st) :=
  fun H locs ls hH hF hL => lv_idiv h.1 h.2.1 d hne (kk H locs ls hH hF hL)
theorem x_irem (h : Ok Γ E q) {x y : Int32} (hne : ¬ y = 0) (d : decode q.2.1 pc = .ok (.irem, 1)) (kk : X Γ E k n G z M (pc + 1) L (.int (x - x / y * y) :: st)) : X Γ E k n G z M pc L (.int y :: .int x :: st) :=
  fun H locs ls hH hF hL => lv_irem h.1 h.2.1 d hne (kk H locs ls hH hF hL)
theorem x_ldiv (h : Ok Γ E q) {x y : Int64} (hne : ¬ y = 0) (d : decode q.2.1 pc = .ok (.ldiv, 1)) (kk : X Γ E k n G z M (pc + 1) L (.long (x / y) :: st)) : X Γ E k n G z M pc L (.long y :: .long x :: st) :=
  fun H locs ls hH hF hL => lv_ldiv h.1 h.2.1 d hne (kk H locs ls hH hF hL)
theorem x_lrem (h : Ok Γ E q) {x y : Int64} (hne : ¬ y = 0) (d : decode q.2.1 pc = .ok (.lrem, 1)) (kk : X Γ E k n G z M (pc + 1) L (.long (x - x / y * y) :: st)) : X Γ E k n G z M pc L (.long y :: .long x :: st) :=
  fun H locs ls hH hF hL => lv_lrem h.1 h.2.1 d hne (kk H locs ls hH hF hL)
theorem x_ladd (h : Ok Γ E q) {x y : Int64} (d : decode q.2.1 pc = .ok (.ladd, 1)) (kk : X Γ E k n G z M (pc + 1) L (.long (x + y) :: st)) : X Γ E k n G z M pc L (.long y :: .long x :: st) :=
  fun H locs ls hH hF hL => lv_ladd h.1 h.2.1 d  (kk H locs ls hH hF hL)
theorem x_lsub (h : Ok Γ E q) {x y : Int64} (d : decode q.2.1 pc = .ok (.lsub, 1)) (kk : X Γ E k n G z M (pc + 1) L (.long (x - y) :: st)) : X Γ E k n G z M pc L (.long y :: .long x :: st) :=
  fun H locs ls hH hF hL => lv_lsub h.1 h.2.1 d  (kk H locs ls hH hF hL)
theorem x_lmul (h : Ok Γ E q) {x y : Int64} (d : decode q.2.1 pc = .ok (.lmul, 1)) (kk : X Γ E k n G z M (pc + 1) L (.long (x * y) :: st)) : X Γ E k n G z M pc L (.long y :: .long x :: st) :=
  fun H locs ls hH hF hL => lv_lmul h.1 h.2.1 d  (kk H locs ls hH hF hL)
theorem x_land (h : Ok Γ E q) {x y : Int64} (d : decode q.2.1 pc = .ok (.land, 1)) (kk : X Γ E k n G z M (pc + 1) L (.long (x &&& y) :: st)) : X Γ E k n G z M pc L (.long y :: .long x :: st) :=
  fun H locs ls hH hF hL => lv_land h.1 h.2.1 d  (kk H locs ls hH hF hL)
theorem x_lor (h : Ok Γ E q) {x y : Int64} (d : decode q.2.1 pc = .ok (.lor, 1)) (kk : X Γ E k n G z M (pc + 1) L (.long (x ||| y) :: st)) : X Γ E k n G z M pc L (.long y :: .long x :: st) :=
  fun H locs ls hH hF hL => lv_lor h.1 h.2.1 d  (kk H locs ls hH hF hL)
theorem x_lxor (h : Ok Γ E q) {x y : Int64} (d : decode q.2.1 pc = .ok (.lxor, 1)) (kk : X Γ E k n G z M (pc + 1) L (.long (x ^^^ y) :: st)) : X Γ E k n G z M pc L (.long y :: .long x :: st) :=
  fun H locs ls hH hF hL => lv_lxor h.1 h.2.1 d  (kk H locs ls hH hF hL)
theorem x_ishl (h : Ok Γ E q) {x y : Int32} (d : decode q.2.1 pc = .ok (.ishl, 1)) (kk : X Γ E k n G z M (pc + 1) L (.int (x <<< (y &&& 31)) :: st)) : X Γ E k n G z M pc L (.int y :: .int x :: st) :=
  fun H locs ls hH hF hL => lv_ishl h.1 h.2.1 d  (kk H locs ls hH hF hL)
theorem x_ishr (h : Ok Γ E q) {x y : Int32} (d : decode q.2.1 pc = .ok (.ishr, 1)) (kk : X Γ E k n G z M (pc + 1) L (.int (x >>> (y &&& 31)) :: st)) : X Γ E k n G z M pc L (.int y :: .int x :: st) :=
  fun H locs ls hH hF hL => lv_ishr h.1 h.2.1 d  (kk H locs ls hH hF hL)
theorem x_iushr (h : Ok Γ E q) {x y : Int32} (d : decode q.2.1 pc = .ok (.iushr, 1)) (kk : X Γ E k n G z M (pc + 1) L (.int (x.toUInt32 >>> (y.toUInt32 &&& Int32.toUInt32 31)).toInt32 :: st)) : X Γ E k n G z M pc L (.int y :: .int x :: st) :=
  fun H locs ls hH hF hL => lv_iushr h.1 h.2.1 d rfl (kk H locs ls hH hF hL)
theorem x_lshl (h : Ok Γ E q) {x : Int64} {y : Int32} (d : decode q.2.1 pc = .ok (.lshl, 1)) (kk : X Γ E k n G z M (pc + 1) L (.long (x <<< (y.toInt64 &&& 63)) :: st)) : X Γ E k n G z M pc L (.int y :: .long x :: st) :=
  fun H locs ls hH hF hL => lv_lshl h.1 h.2.1 d rfl (kk H locs ls hH hF hL)
theorem x_lshr (h : Ok Γ E q) {x : Int64} {y : Int32} (d : decode q.2.1 pc = .ok (.lshr, 1)) (kk : X Γ E k n G z M (pc + 1) L (.long (x >>> (y.toInt64 &&& 63)) :: st)) : X Γ E k n G z M pc L (.int y :: .long x :: st) :=
  fun H locs ls hH hF hL => lv_lshr h.1 h.2.1 d rfl (kk H locs ls hH hF hL)
theorem x_lushr (h : Ok Γ E q) {x : Int64} {y : Int32} (d : decode q.2.1 pc = .ok (.lushr, 1)) (kk : X Γ E k n G z M (pc + 1) L (.long (x.toUInt64 >>> (y.toInt64.toUInt64 &&& Int64.toUInt64 63)).toInt64 :: st)) : X Γ E k n G z M pc L (.int y :: .long x :: st) :=
  fun H locs ls hH hF hL => lv_lushr h.1 h.2.1 d rfl (kk H locs ls hH hF hL)
theorem x_i2l (h : Ok Γ E q) {x : Int32} (d : decode q.2.1 pc = .ok (.i2l, 1)) (kk : X Γ E k n G z M (pc + 1) L (.long x.toInt64 :: st)) : X Γ E k n G z M pc L (.int x :: st) :=
  fun H locs ls hH hF hL => lv_i2l h.1 h.2.1 d rfl (kk H locs ls hH hF hL)
theorem x_l2i (h : Ok Γ E q) {x : Int64} (d : decode q.2.1 pc = .ok (.l2i, 1)) (kk : X Γ E k n G z M (pc + 1) L (.int x.toInt32 :: st)) : X Γ E k n G z M pc L (.long x :: st) :=
  fun H locs ls hH hF hL => lv_l2i h.1 h.2.1 d rfl (kk H locs ls hH hF hL)
theorem x_i2c (h : Ok Γ E q) {x : Int32} (d : decode q.2.1 pc = .ok (.i2c, 1)) (kk : X Γ E k n G z M (pc + 1) L (.int (x.toUInt32 % 65536).toInt32 :: st)) : X Γ E k n G z M pc L (.int x :: st) :=
  fun H locs ls hH hF hL => lv_i2c h.1 h.2.1 d rfl (kk H locs ls hH hF hL)
theorem x_dup (h : Ok Γ E q) {v : Value} (hc : v.category = 1) (d : decode q.2.1 pc = .ok (.dup, 1)) (kk : X Γ E k n G z M (pc + 1) L (v :: v :: st)) : X Γ E k n G z M pc L (v :: st) :=
  fun H locs ls hH hF hL => lv_dup h.1 h.2.1 d hc (kk H locs ls hH hF hL)
theorem x_pop (h : Ok Γ E q) {v : Value} (hc : v.category = 1) (d : decode q.2.1 pc = .ok (.pop, 1)) (kk : X Γ E k n G z M (pc + 1) L (st)) : X Γ E k n G z M pc L (v :: st) :=
  fun H locs ls hH hF hL => lv_pop h.1 h.2.1 d hc (kk H locs ls hH hF hL)
theorem x_dup2 (h : Ok Γ E q) {v u : Value} (hc : v.category = 1) (hu : u.category = 1) (d : decode q.2.1 pc = .ok (.dup2, 1)) (kk : X Γ E k n G z M (pc + 1) L (v :: u :: v :: u :: st)) : X Γ E k n G z M pc L (v :: u :: st) :=
  fun H locs ls hH hF hL => lv_dup2_11 h.1 h.2.1 d hc hu (kk H locs ls hH hF hL)
theorem x_dup_x1 (h : Ok Γ E q) {v u : Value} (hc : v.category = 1) (hu : u.category = 1) (d : decode q.2.1 pc = .ok (.dup_x1, 1)) (kk : X Γ E k n G z M (pc + 1) L (v :: u :: v :: st)) : X Γ E k n G z M pc L (v :: u :: st) :=
  fun H locs ls hH hF hL => lv_dup_x1 h.1 h.2.1 d hc hu (kk H locs ls hH hF hL)
theorem x_lcmp (h : Ok Γ E q) {x y : Int64} (d : decode q.2.1 pc = .ok (.lcmp, 1)) (kk : X Γ E k n G z M (pc + 1) L (.int (lg_cmp x y) :: st)) : X Γ E k n G z M pc L (.long y :: .long x :: st) := fun H locs ls hH hF hL => W.lcmp h.1 h.2.1 d (kk H locs ls hH hF hL)
theorem x_icmp_eq (h : Ok Γ E q) {x y : Int32} {off : Int} (tgt : Nat) (d : decode q.2.1 pc = .ok (.if_icmp .eq off, 3)) (ht : (pc : Int) + off = (tgt : Int)) (kt : x = y → X Γ E k n G z M tgt L st) (kf : ¬ (x = y) → X Γ E k n G z M (pc + 3) L st) : X Γ E k n G z M pc L (.int y :: .int x :: st) :=
  fun H locs ls hH hF hL => lv_icmp_eq h.1 h.2.1 d ht (fun hc => kt hc H locs ls hH hF hL) (fun hc => kf hc H locs ls hH hF hL)
theorem x_if_eq (h : Ok Γ E q) {x : Int32} {off : Int} (tgt : Nat) (d : decode q.2.1 pc = .ok (.ifCond .eq off, 3)) (ht : (pc : Int) + off = (tgt : Int)) (kt : x = 0 → X Γ E k n G z M tgt L st) (kf : ¬ (x = 0) → X Γ E k n G z M (pc + 3) L st) : X Γ E k n G z M pc L (.int x :: st) :=
  fun H locs ls hH hF hL => lv_if_eq h.1 h.2.1 d ht (fun hc => kt hc H locs ls hH hF hL) (fun hc => kf hc H locs ls hH hF hL)
theorem x_icmp_ne (h : Ok Γ E q) {x y : Int32} {off : Int} (tgt : Nat) (d : decode q.2.1 pc = .ok (.if_icmp .ne off, 3)) (ht : (pc : Int) + off = (tgt : Int)) (kt : ¬ x = y → X Γ E k n G z M tgt L st) (kf : x = y → X Γ E k n G z M (pc + 3) L st) : X Γ E k n G z M pc L (.int y :: .int x :: st) :=
  fun H locs ls hH hF hL => lv_icmp_ne h.1 h.2.1 d ht (fun hc => kt hc H locs ls hH hF hL) (fun hc => kf hc H locs ls hH hF hL)
theorem x_if_ne (h : Ok Γ E q) {x : Int32} {off : Int} (tgt : Nat) (d : decode q.2.1 pc = .ok (.ifCond .ne off, 3)) (ht : (pc : Int) + off = (tgt : Int)) (kt : ¬ x = 0 → X Γ E k n G z M tgt L st) (kf : x = 0 → X Γ E k n G z M (pc + 3) L st) : X Γ E k n G z M pc L (.int x :: st) :=
  fun H locs ls hH hF hL => lv_if_ne h.1 h.2.1 d ht (fun hc => kt hc H locs ls hH hF hL) (fun hc => kf hc H locs ls hH hF hL)
theorem x_icmp_lt (h : Ok Γ E q) {x y : Int32} {off : Int} (tgt : Nat) (d : decode q.2.1 pc = .ok (.if_icmp .lt off, 3)) (ht : (pc : Int) + off = (tgt : Int)) (kt : x < y → X Γ E k n G z M tgt L st) (kf : ¬ (x < y) → X Γ E k n G z M (pc + 3) L st) : X Γ E k n G z M pc L (.int y :: .int x :: st) :=
  fun H locs ls hH hF hL => lv_icmp_lt h.1 h.2.1 d ht (fun hc => kt hc H locs ls hH hF hL) (fun hc => kf hc H locs ls hH hF hL)
theorem x_if_lt (h : Ok Γ E q) {x : Int32} {off : Int} (tgt : Nat) (d : decode q.2.1 pc = .ok (.ifCond .lt off, 3)) (ht : (pc : Int) + off = (tgt : Int)) (kt : x < 0 → X Γ E k n G z M tgt L st) (kf : ¬ (x < 0) → X Γ E k n G z M (pc + 3) L st) : X Γ E k n G z M pc L (.int x :: st) :=
  fun H locs ls hH hF hL => lv_if_lt h.1 h.2.1 d ht (fun hc => kt hc H locs ls hH hF hL) (fun hc => kf hc H locs ls hH hF hL)
theorem x_icmp_ge (h : Ok Γ E q) {x y : Int32} {off : Int} (tgt : Nat) (d : decode q.2.1 pc = .ok (.if_icmp .ge off, 3)) (ht : (pc : Int) + off = (tgt : Int)) (kt : y ≤ x → X Γ E k n G z M tgt L st) (kf : ¬ (y ≤ x) → X Γ E k n G z M (pc + 3) L st) : X Γ E k n G z M pc L (.int y :: .int x :: st) :=
  fun H locs ls hH hF hL => lv_icmp_ge h.1 h.2.1 d ht (fun hc => kt hc H locs ls hH hF hL) (fun hc => kf hc H locs ls hH hF hL)
theorem x_if_ge (h : Ok Γ E q) {x : Int32} {off : Int} (tgt : Nat) (d : decode q.2.1 pc = .ok (.ifCond .ge off, 3)) (ht : (pc : Int) + off = (tgt : Int)) (kt : 0 ≤ x → X Γ E k n G z M tgt L st) (kf : ¬ (0 ≤ x) → X Γ E k n G z M (pc + 3) L st) : X Γ E k n G z M pc L (.int x :: st) :=
  fun H locs ls hH hF hL => lv_if_ge h.1 h.2.1 d ht (fun hc => kt hc H locs ls hH hF hL) (fun hc => kf hc H locs ls hH hF hL)
theorem x_icmp_gt (h : Ok Γ E q) {x y : Int32} {off : Int} (tgt : Nat) (d : decode q.2.1 pc = .ok (.if_icmp .gt off, 3)) (ht : (pc : Int) + off = (tgt : Int)) (kt : y < x → X Γ E k n G z M tgt L st) (kf : ¬ (y < x) → X Γ E k n G z M (pc + 3) L st) : X Γ E k n G z M pc L (.int y :: .int x :: st) :=
  fun H locs ls hH hF hL => lv_icmp_gt h.1 h.2.1 d ht (fun hc => kt hc H locs ls hH hF hL) (fun hc => kf hc H locs ls hH hF hL)
theorem x_if_gt (h : Ok Γ E q) {x : Int32} {off : Int} (tgt : Nat) (d : decode q.2.1 pc = .ok (.ifCond .gt off, 3)) (ht : (pc : Int) + off = (tgt : Int)) (kt : 0 < x → X Γ E k n G z M tgt L st) (kf : ¬ (0 < x) → X Γ E k n G z M (pc + 3) L st) : X Γ E k n G z M pc L (.int x :: st) :=
  fun H locs ls hH hF hL => lv_if_gt h.1 h.2.1 d ht (fun hc => kt hc H locs ls hH hF hL) (fun hc => kf hc H locs ls hH hF hL)
theorem x_icmp_le (h : Ok Γ E q) {x y : Int32} {off : Int} (tgt : Nat) (d : decode q.2.1 pc = .ok (.if_icmp .le off, 3)) (ht : (pc : Int) + off = (tgt : Int)) (kt : x ≤ y → X Γ E k n G z M tgt L st) (kf : ¬ (x ≤ y) → X Γ E k n G z M (pc + 3) L st) : X Γ E k n G z M pc L (.int y :: .int x :: st) :=
  fun H locs ls hH hF hL => lv_icmp_le h.1 h.2.1 d ht (fun hc => kt hc H locs ls hH hF hL) (fun hc => kf hc H locs ls hH hF hL)
theorem x_if_le (h : Ok Γ E q) {x : Int32} {off : Int} (tgt : Nat) (d : decode q.2.1 pc = .ok (.ifCond .le off, 3)) (ht : (pc : Int) + off = (tgt : Int)) (kt : x ≤ 0 → X Γ E k n G z M tgt L st) (kf : ¬ (x ≤ 0) → X Γ E k n G z M (pc + 3) L st) : X Γ E k n G z M pc L (.int x :: st) :=
  fun H locs ls hH hF hL => lv_if_le h.1 h.2.1 d ht (fun hc => kt hc H locs ls hH hF hL) (fun hc => kf hc H locs ls hH hF hL)
theorem x_goto (h : Ok Γ E q) {off : Int} (tgt : Nat) (d : decode q.2.1 pc = .ok (.goto off, 3)) (ht : (pc : Int) + off = (tgt : Int)) (kk : X Γ E k n G z M tgt L st) : X Γ E k n G z M pc L st :=
  fun H locs ls hH hF hL => lv_goto h.1 h.2.1 d ht (kk H locs ls hH hF hL)
theorem x_tin (h : Ok Γ E q) {dflt lo hi : Int} {offs : Array Int} {len : Nat} {x : Int32} {off : Int} (tgt : Nat) (d : decode q.2.1 pc = .ok (.tableswitch dflt lo hi offs, len)) (h1 : ¬ x.toInt < lo) (h2 : ¬ hi < x.toInt) (ho : offs[(x.toInt - lo).toNat]? = some off) (ht : (pc : Int) + off = (tgt : Int)) (kk : X Γ E k n G z M tgt L st) : X Γ E k n G z M pc L (.int x :: st) :=
  fun H locs ls hH hF hL => lv_tableIn h.1 h.2.1 d h1 h2 ho ht (kk H locs ls hH hF hL)
theorem x_tout (h : Ok Γ E q) {dflt lo hi : Int} {offs : Array Int} {len : Nat} {x : Int32} (tgt : Nat) (d : decode q.2.1 pc = .ok (.tableswitch dflt lo hi offs, len)) (h1 : x.toInt < lo ∨ hi < x.toInt) (ht : (pc : Int) + dflt = (tgt : Int)) (kk : X Γ E k n G z M tgt L st) : X Γ E k n G z M pc L (.int x :: st) :=
  fun H locs ls hH hF hL => lv_tableOut h.1 h.2.1 d h1 ht (kk H locs ls hH hF hL)
theorem x_look (h : Ok Γ E q) {dflt : Int} {ps : Array (Int × Int)} {len : Nat} {x : Int32} {off : Int} (tgt : Nat) (d : decode q.2.1 pc = .ok (.lookupswitch dflt ps, len)) (hp : (ps.toList.zip (ps.toList.drop 1)).all (fun (a, next) => a.1 < next.1) = true) (ho : Op.lookupswitch.offset ps.toList dflt x.toInt = off) (ht : (pc : Int) + off = (tgt : Int)) (kk : X Γ E k n G z M tgt L st) : X Γ E k n G z M pc L (.int x :: st) :=
  fun H locs ls hH hF hL => lv_lookup h.1 h.2.1 d hp ho ht (kk H locs ls hH hF hL)
end ROWS
