/-! ===== MEMORY: ints, longs and references by address and place; kinds of cells; the heap holds the memory ===== -/
abbrev MM : Type := (Nat → Nat → Int32) × (Nat → Nat → Int64) × (Nat → Nat → Value)
def up2 {α : Type} (f : Nat → Nat → α) (a k : Nat) (v : α) : Nat → Nat → α := fun b j => if b = a ∧ j = k then v else f b j
theorem up2_self {α : Type} (f : Nat → Nat → α) (a k : Nat) (v : α) : up2 f a k v a k = v := by simp [up2]
theorem up2_ne {α : Type} (f : Nat → Nat → α) {a k b j : Nat} (v : α) (h : ¬ (b = a ∧ j = k)) : up2 f a k v b j = f b j := by simp [up2, h]
def sI (M : MM) (a k : Nat) (v : Int32) : MM := (up2 M.1 a k v, M.2.1, M.2.2)
def sL (M : MM) (a k : Nat) (v : Int64) : MM := (M.1, up2 M.2.1 a k v, M.2.2)
def sR (M : MM) (a k : Nat) (v : Value) : MM := (M.1, M.2.1, up2 M.2.2 a k v)
/-- a kind of cell: an object of a class, or an array of a type and a length -/
abbrev KD : Type := Nat ⊕ (FieldType × Nat)
abbrev GG : Type := Nat → Option KD
def vty (ty : FieldType) (M : MM) (a k : Nat) : Value := match ty with
  | .long => .long (M.2.1 a k)
  | .object _ => M.2.2 a k
  | .array _ => M.2.2 a k
  | _ => .int (M.1 a k)
/-- what is fixed for the whole law: the launch, the classes' numbers and slots, the array classes, the heap at the law's entry, the address of the table of factorials -/
abbrev GT : Type := Launch × va_G × (FieldType → ClassId) × Heap × Nat
def HA (Γ : GT) (M : MM) (H : Heap) (a : Nat) (kd : KD) : Prop := match kd with
  | .inl ci => t_OB a (Γ.2.1.1 ci) (cN ci) (Γ.2.1.2 ci) H (fun k => vty (cY ci k) M a k)
  | .inr q => H[a]? = some (arrV (Γ.2.2.1 q.1) q.2 (fun j => vty q.1 M a j))
def HI (Γ : GT) (G : GG) (z : Nat) (M : MM) (H : Heap) : Prop := H.size = z ∧ Γ.2.2.2.1.size ≤ z ∧ (∀ q : Nat, q < Γ.2.2.2.1.size → H[q]? = Γ.2.2.2.1[q]?) ∧ ∀ (a : Nat) (kd : KD), G a = some kd → Γ.2.2.2.1.size ≤ a ∧ HA Γ M H a kd
theorem HA.kept {Γ : GT} {M : MM} {H H1 : Heap} {a : Nat} {kd : KD} (h : HA Γ M H a kd) (hq : H1[a]? = H[a]?) : HA Γ M H1 a kd := by
  cases kd with
  | inl ci => exact t_OB.kept h hq
  | inr q => exact Eq.trans hq h
theorem HA.lt {Γ : GT} {M : MM} {H : Heap} {a : Nat} {kd : KD} (h : HA Γ M H a kd) : a < H.size := by
  cases kd with
  | inl ci => obtain ⟨c, h1, _⟩ := h; exact (Array.getElem?_eq_some_iff.mp h1).1
  | inr q => exact (Array.getElem?_eq_some_iff.mp (show H[a]? = some _ from h)).1
/-- another memory that is the same at this address -/
theorem HA.to {Γ : GT} {M M' : MM} {H : Heap} {a : Nat} {kd : KD} (h : HA Γ M H a kd) (h1 : ∀ k, M.1 a k = M'.1 a k) (h2 : ∀ k, M.2.1 a k = M'.2.1 a k) (h3 : ∀ k, M.2.2 a k = M'.2.2 a k) : HA Γ M' H a kd := by
  have e : ∀ (ty : FieldType) (k : Nat), vty ty M a k = vty ty M' a k := by
    intro ty k
    cases ty <;> simp [vty, h1, h2, h3]
  cases kd with
  | inl ci => exact t_OB.to h (fun k _ => e _ k)
  | inr q =>
    show H[a]? = some (arrV _ _ (fun j => vty q.1 M' a j))
    rw [← funext (fun j => e q.1 j)]
    exact h
/-- the table of factorials -/
def facT (j : Nat) : Int32 := match j with
  | 0 => 1
  | 1 => 1
  | 2 => 2
  | 3 => 6
  | 4 => 24
  | _ => 120
def wOK : Cond → Bool
  | .fieldLinkNest _ _ _ _ _ _ => true
  | .methodLinkNest _ _ _ _ => true
  | .arrayOver (.object _) => true
  | w => goodWord w
theorem wOK_at {w : Cond} (h : wOK w = true) {s U : State} {A a' : Array Value} (hW : s.WarmedH U.vm) (hb : w.before A s = true) : w.before a' U = true := by
  unfold wOK at h
  split at h
  · exact va_Nw.use rfl (va_Nw.warmF hW (va_Nw.of rfl hb))
  · exact va_Nw.use rfl (va_Nw.warmM hW (va_Nw.of rfl hb))
  · exact va_AO.use (va_AO.moved hW.alike (va_AO.of hb))
  · exact word_at hW (good_of_word h) hb
/-- a word of the tables that stays true -/
def KW (w : Cond) : Prop := w ∈ lw_tbl ∧ wOK w = true
theorem KW.by {w : Cond} (i : Nat) (h : tables_1[i]? = some w) (h2 : wOK w = true) : KW w := ⟨List.mem_append_right _ (List.mem_of_getElem? h), h2⟩
theorem KW.sel {w : Cond} (i : Nat) (h : (k2_sels lw_privs)[i]? = some w) (h2 : wOK w = true) : KW w := ⟨List.mem_append_left _ (List.mem_of_getElem? h), h2⟩
/-- what the tables say, at any state of the law -/
def aTys : List FieldType := [.char, .int, .long, .boolean, .object "LoopGuesses$Condition", .object "LoopGuesses$States", .object "LoopGuesses$Step"]
def KS (Γ : GT) (U : State) : Prop := (∀ ci, ci < 13 → u_Kn U (cR ci) (cT ci) (cN ci) (Γ.2.1.1 ci) (Γ.2.1.2 ci)) ∧ (∀ ty ∈ aTys, ArrOfT U (Γ.2.2.1 ty) ty ∧ va_RA U (Γ.2.2.1 ty) ty) ∧ (∀ w, KW w → va_Nw w U) ∧ va_Z "LoopGuesses" "FACTORIALS" "[I" (.ref Γ.2.2.2.2) (fun q => Γ.2.2.2.1.size ≤ q) U Γ.2.2.2.1 ∧ va_T .int Γ.2.2.2.2 6 (fun j => .int (facT j)) (fun q => Γ.2.2.2.1.size ≤ q) U Γ.2.2.2.1

theorem KS.word {Γ : GT} {s U : State} (h : KS Γ s) {w : Cond} (hw : KW w) {a' : Array Value} (hW : s.WarmedH U.vm) : w.before a' U = true := wOK_at hw.2 hW (h.2.2.1 w hw)
theorem KS.at {Γ : GT} {s : State} (h : KS Γ s) {w : Cond} (hw : KW w) {a' : Array Value} : w.before a' s = true := h.word hw (State.WarmedH.refl s)
theorem KS.warm {Γ : GT} {s U : State} (h : KS Γ s) (hW : s.WarmedH U.vm) : KS Γ U :=
  ⟨fun ci hc => u_Kn_moved hW.alike (h.1 ci hc), fun ty ht => ⟨arrOfT_moved hW.alike (h.2.1 ty ht).1, (h.2.1 ty ht).2.moved hW.alike⟩, fun w hw => h.word hw hW, h.2.2.2.1.moved hW.alike, h.2.2.2.2.moved hW.alike⟩
theorem KS.same {Γ : GT} {s U : State} (h : KS Γ s) (e : U.vm = s.vm) : KS Γ U := h.warm (by rw [e]; exact State.WarmedH.refl s)
/-! ===== LOCALS by places ===== -/
def PL (ls : Array Slot) (L : List (Option Value)) : Prop := ls.size = L.length ∧ lv_wf ls ∧ ∀ (i : Nat) (v : Value), L[i]? = some (some v) → ls[i]? = some (.val v)
def prs : Nat → List (Option Value) → List (Nat × Value)
  | _, [] => []
  | i, none :: t => prs (i + 1) t
  | i, some v :: t => (i, v) :: prs (i + 1) t
theorem mem_prs : ∀ (L : List (Option Value)) (i j : Nat) (v : Value), (j, v) ∈ prs i L ↔ i ≤ j ∧ L[j - i]? = some (some v)
  | [], i, j, v => by simp [prs]
  | none :: t, i, j, v => by
    rw [prs, mem_prs t (i + 1) j v]
    constructor
    · rintro ⟨h1, h2⟩
      refine ⟨by omega, ?_⟩
      rw [show j - i = (j - (i + 1)) + 1 by omega]
      simpa using h2
    · rintro ⟨h1, h2⟩
      have h3 : j ≠ i := by rintro rfl; simp at h2
      refine ⟨by omega, ?_⟩
      rw [show j - i = (j - (i + 1)) + 1 by omega] at h2
      simpa using h2
  | some w :: t, i, j, v => by
    rw [prs, List.mem_cons, mem_prs t (i + 1) j v]
    constructor
    · rintro (h | ⟨h1, h2⟩)
      · cases h
        exact ⟨Nat.le_refl _, by simp⟩
      · refine ⟨by omega, ?_⟩
        rw [show j - i = (j - (i + 1)) + 1 by omega]
        simpa using h2
    · rintro ⟨h1, h2⟩
      by_cases h3 : j = i
      · subst h3
        simp at h2
        left
        rw [h2]
      · right
        refine ⟨by omega, ?_⟩
        rw [show j - i = (j - (i + 1)) + 1 by omega] at h2
        simpa using h2
theorem PL.has {ls : Array Slot} {L : List (Option Value)} (h : PL ls L) : lv_has ls L.length (prs 0 L) := by
  refine ⟨h.1, h.2.1, fun q hq => ?_⟩
  obtain ⟨j, v⟩ := q
  have := (mem_prs L 0 j v).mp hq
  exact h.2.2 j v (by simpa using this.2)
def chk1 (L : List (Option Value)) : Nat → Bool
  | 0 => true
  | j + 1 => match L[j]? with
    | some (some w) => w.category == 1
    | _ => true
theorem chk1_ne {L : List (Option Value)} {i j : Nat} {w : Value} (h : chk1 L i = true) (hj : L[j]? = some (some w)) (hji : j + 1 = i) : ¬ w.category = 2 := by
  subst hji
  simp only [chk1, hj] at h
  intro h2
  rw [h2] at h
  cases h
theorem PL.store1 {ls' : Array Slot} {L : List (Option Value)} {i : Nat} {v : Value} (hc : chk1 L i = true) (h : lv_has ls' L.length ((i, v) :: (prs 0 L).filter (fun q => !(q.1 == i) && !(q.1 + 1 == i && q.2.category == 2)))) : PL ls' (L.set i (some v)) := by
  refine ⟨by rw [List.length_set]; exact h.1, h.2.1, fun j w hj => ?_⟩
  by_cases hij : j = i
  · subst hij
    by_cases hl : j < L.length
    · rw [List.getElem?_set_self hl] at hj
      cases hj
      exact h.2.2 (j, v) List.mem_cons_self
    · rw [List.getElem?_eq_none (by rw [List.length_set]; omega)] at hj
      cases hj
  · rw [List.getElem?_set_ne (Ne.symm hij)] at hj
    refine h.2.2 (j, w) (List.mem_cons_of_mem _ (List.mem_filter.mpr ⟨(mem_prs L 0 j w).mpr ⟨Nat.zero_le _, by simpa using hj⟩, ?_⟩))
    have h1 : (j == i) = false := by simp [hij]
    by_cases h2 : j + 1 = i
    · have := chk1_ne hc hj h2
      simp [h1, this]
    · simp [h1, h2]
theorem PL.store2 {ls' : Array Slot} {L : List (Option Value)} {i : Nat} {v : Value} (hc : chk1 L i = true) (h : lv_has ls' L.length ((i, v) :: (prs 0 L).filter (fun q => !(q.1 == i) && (!(q.1 == i + 1) && !(q.1 + 1 == i && q.2.category == 2))))) : PL ls' ((L.set i (some v)).set (i + 1) none) := by
  refine ⟨by rw [List.length_set, List.length_set]; exact h.1, h.2.1, fun j w hj => ?_⟩
  by_cases hi1 : j = i + 1
  · subst hi1
    by_cases hl : i + 1 < L.length
    · rw [List.getElem?_set_self (by rw [List.length_set]; exact hl)] at hj
      cases hj
    · rw [List.getElem?_eq_none (by rw [List.length_set, List.length_set]; omega)] at hj
      cases hj
  · rw [List.getElem?_set_ne (Ne.symm hi1)] at hj
    by_cases hij : j = i
    · subst hij
      by_cases hl : j < L.length
      · rw [List.getElem?_set_self hl] at hj
        cases hj
        exact h.2.2 (j, v) List.mem_cons_self
      · rw [List.getElem?_eq_none (by rw [List.length_set]; omega)] at hj
        cases hj
    · rw [List.getElem?_set_ne (Ne.symm hij)] at hj
      refine h.2.2 (j, w) (List.mem_cons_of_mem _ (List.mem_filter.mpr ⟨(mem_prs L 0 j w).mpr ⟨Nat.zero_le _, by simpa using hj⟩, ?_⟩))
      have h1 : (j == i) = false := by simp [hij]
      have h0 : (j == i + 1) = false := by simp [hi1]
      by_cases h2 : j + 1 = i
      · have := chk1_ne hc hj h2
        simp [h1, h0, this]
      · simp [h1, h0, h2]
/-- the locals at a method's entry -/
def entA : List Value → List (Option Value)
  | [] => []
  | v :: vs => if v.category = 2 then some v :: none :: entA vs else some v :: entA vs
def entL (as : List Value) (n : Nat) : List (Option Value) := entA as ++ List.replicate (n - (entA as).length) none
theorem entA_len : ∀ as : List Value, (entA as).length = (lg_sl as).length
  | [] => rfl
  | v :: vs => by
    have ih := entA_len vs
    by_cases h : v.category = 2 <;> simp [entA, lg_sl, h] at ih ⊢ <;> simpa using ih
theorem entA_args : ∀ (as : List Value) (i j : Nat) (v : Value), (entA as)[j]? = some (some v) → (i + j, v) ∈ lv_args i as
  | [], i, j, v => by simp [entA]
  | w :: vs, i, j, v => by
    intro h
    by_cases hc : w.category = 2
    · simp only [entA, hc, if_true] at h
      simp only [lv_args, hc, if_true]
      match j, h with
      | 0, h => simp at h; simp [h]
      | 1, h => simp at h
      | j + 2, h =>
        simp at h
        have := entA_args vs (i + 2) j v h
        rw [show i + (j + 2) = i + 2 + j by omega]
        exact List.mem_cons_of_mem _ this
    · simp only [entA, hc, if_false] at h
      simp only [lv_args, hc, if_false]
      match j, h with
      | 0, h => simp at h; simp [h]
      | j + 1, h =>
        simp at h
        have := entA_args vs (i + 1) j v h
        rw [show i + (j + 1) = i + 1 + j by omega]
        exact List.mem_cons_of_mem _ this
theorem PL.entry (as : List Value) {n : Nat} (h : (entA as).length ≤ n) : PL ((lg_sl as ++ List.replicate (n - (lg_sl as).length) Slot.unset).toArray) (entL as n) := by
  have hl := lv_entry as (n := n) (by rw [← entA_len]; exact h)
  refine ⟨?_, hl.2.1, fun i v hv => ?_⟩
  · rw [hl.1, entL, List.length_append, List.length_replicate]
    omega
  · have : (entA as)[i]? = some (some v) := by
      rw [entL] at hv
      by_cases hi : i < (entA as).length
      · rwa [List.getElem?_append_left hi] at hv
      · rw [List.getElem?_append_right (by omega)] at hv
        have := List.eq_of_mem_replicate (List.mem_of_getElem? hv)
        cases this
    have h2 := entA_args as 0 i v this
    rw [Nat.zero_add] at h2
    exact hl.2.2 (i, v) h2
