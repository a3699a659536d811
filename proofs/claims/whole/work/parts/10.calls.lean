/-! ===== plain calls by the kind of the answer; Object's own constructor; new cells ===== -/
def rV (P : MM → Prop) : Option Value → MM → Prop := fun r M' => r = none ∧ P M'
def rI (P : Int32 → MM → Prop) : Option Value → MM → Prop := fun r M' => ∃ v : Int32, r = some (.int v) ∧ P v M'
def rL (P : Int64 → MM → Prop) : Option Value → MM → Prop := fun r M' => ∃ v : Int64, r = some (.long v) ∧ P v M'
def rR (P : Nat → MM → Prop) : Option Value → MM → Prop := fun r M' => ∃ a : Nat, r = some (.ref a) ∧ P a M'
section PROWS
variable {Γ : GT} {E : CT} {q : MD} {k n : Nat} {G : GG} {z : Nat} {M : MM} {pc : Nat} {L : List (Option Value)} {st : List Value}
theorem x_cVv (h : Ok Γ E q) {q' : MD} {na idx b cb : Nat} {As rest : List Value} {P : MM → Prop} (ci : CI q' na) (im : IM q') (lk : LK q.1.cls idx q') (hR : RM q q') (hz : q'.2.2.2.2.cells = 0 ∧ q'.2.2.2.2.slots = 0) (hk : k ≤ q.2.2.2.2.cells ∧ n ≤ q.2.2.2.2.slots) (hc : Calls Γ q' (.ref b :: As) G M (rV P)) (hn : As.length = na) (hst : st = As.reverse ++ .ref b :: rest) (hW : Nat.ble ((rest.map fun v => v.category).sum) 8 = true) (hLn : L.length = q.2.2.1) (hb : G b = some (.inl cb)) (hcb : cb < 13) (hcl : cR cb = q'.1.cls) (d : decode q.2.1 pc = .ok (.invokevirtual idx, 3)) (kk : ∀ (M' : MM), P M' → X Γ E k n G z M' (pc + 3) L (rest)) : X Γ E k n G z M pc L st :=
  x_invV h ci im lk hR hz.1 hz.2 hk (hc z) hn hst hW hLn hb hcb hcl d (fun r G' z' M' hp => by obtain ⟨rfl, rfl, rfl, hp⟩ := hp; exact kk M' hp)
theorem x_cVi (h : Ok Γ E q) {q' : MD} {na idx b cb : Nat} {As rest : List Value} {P : Int32 → MM → Prop} (ci : CI q' na) (im : IM q') (lk : LK q.1.cls idx q') (hR : RM q q') (hz : q'.2.2.2.2.cells = 0 ∧ q'.2.2.2.2.slots = 0) (hk : k ≤ q.2.2.2.2.cells ∧ n ≤ q.2.2.2.2.slots) (hc : Calls Γ q' (.ref b :: As) G M (rI P)) (hn : As.length = na) (hst : st = As.reverse ++ .ref b :: rest) (hW : Nat.ble ((rest.map fun v => v.category).sum) 8 = true) (hLn : L.length = q.2.2.1) (hb : G b = some (.inl cb)) (hcb : cb < 13) (hcl : cR cb = q'.1.cls) (d : decode q.2.1 pc = .ok (.invokevirtual idx, 3)) (kk : ∀ (v : Int32) (M' : MM), P v M' → X Γ E k n G z M' (pc + 3) L (.int v :: rest)) : X Γ E k n G z M pc L st :=
  x_invV h ci im lk hR hz.1 hz.2 hk (hc z) hn hst hW hLn hb hcb hcl d (fun r G' z' M' hp => by obtain ⟨rfl, rfl, v, rfl, hp⟩ := hp; exact kk v M' hp)
theorem x_cVl (h : Ok Γ E q) {q' : MD} {na idx b cb : Nat} {As rest : List Value} {P : Int64 → MM → Prop} (ci : CI q' na) (im : IM q') (lk : LK q.1.cls idx q') (hR : RM q q') (hz : q'.2.2.2.2.cells = 0 ∧ q'.2.2.2.2.slots = 0) (hk : k ≤ q.2.2.2.2.cells ∧ n ≤ q.2.2.2.2.slots) (hc : Calls Γ q' (.ref b :: As) G M (rL P)) (hn : As.length = na) (hst : st = As.reverse ++ .ref b :: rest) (hW : Nat.ble ((rest.map fun v => v.category).sum) 8 = true) (hLn : L.length = q.2.2.1) (hb : G b = some (.inl cb)) (hcb : cb < 13) (hcl : cR cb = q'.1.cls) (d : decode q.2.1 pc = .ok (.invokevirtual idx, 3)) (kk : ∀ (v : Int64) (M' : MM), P v M' → X Γ E k n G z M' (pc + 3) L (.long v :: rest)) : X Γ E k n G z M pc L st :=
  x_invV h ci im lk hR hz.1 hz.2 hk (hc z) hn hst hW hLn hb hcb hcl d (fun r G' z' M' hp => by obtain ⟨rfl, rfl, v, rfl, hp⟩ := hp; exact kk v M' hp)
theorem x_cVr (h : Ok Γ E q) {q' : MD} {na idx b cb : Nat} {As rest : List Value} {P : Nat → MM → Prop} (ci : CI q' na) (im : IM q') (lk : LK q.1.cls idx q') (hR : RM q q') (hz : q'.2.2.2.2.cells = 0 ∧ q'.2.2.2.2.slots = 0) (hk : k ≤ q.2.2.2.2.cells ∧ n ≤ q.2.2.2.2.slots) (hc : Calls Γ q' (.ref b :: As) G M (rR P)) (hn : As.length = na) (hst : st = As.reverse ++ .ref b :: rest) (hW : Nat.ble ((rest.map fun v => v.category).sum) 8 = true) (hLn : L.length = q.2.2.1) (hb : G b = some (.inl cb)) (hcb : cb < 13) (hcl : cR cb = q'.1.cls) (d : decode q.2.1 pc = .ok (.invokevirtual idx, 3)) (kk : ∀ (v : Nat) (M' : MM), P v M' → X Γ E k n G z M' (pc + 3) L (.ref v :: rest)) : X Γ E k n G z M pc L st :=
  x_invV h ci im lk hR hz.1 hz.2 hk (hc z) hn hst hW hLn hb hcb hcl d (fun r G' z' M' hp => by obtain ⟨rfl, rfl, v, rfl, hp⟩ := hp; exact kk v M' hp)
theorem x_cSv (h : Ok Γ E q) {q' : MD} {na idx : Nat} {As rest : List Value} {P : MM → Prop} (ci : CI q' na) (sm : KW (.static q'.1)) (lk : LK q.1.cls idx q') (hR : RM q q') (hz : q'.2.2.2.2.cells = 0 ∧ q'.2.2.2.2.slots = 0) (hk : k ≤ q.2.2.2.2.cells ∧ n ≤ q.2.2.2.2.slots) (hc : Calls Γ q' As G M (rV P)) (hn : As.length = na) (hst : st = As.reverse ++ rest) (hW : Nat.ble ((rest.map fun v => v.category).sum) 8 = true) (hLn : L.length = q.2.2.1) (d : decode q.2.1 pc = .ok (.invokestatic idx, 3)) (kk : ∀ (M' : MM), P M' → X Γ E k n G z M' (pc + 3) L (rest)) : X Γ E k n G z M pc L st :=
  x_invS h ci sm lk hR hz.1 hz.2 hk (hc z) hn hst hW hLn d (fun r G' z' M' hp => by obtain ⟨rfl, rfl, rfl, hp⟩ := hp; exact kk M' hp)
theorem x_cSi (h : Ok Γ E q) {q' : MD} {na idx : Nat} {As rest : List Value} {P : Int32 → MM → Prop} (ci : CI q' na) (sm : KW (.static q'.1)) (lk : LK q.1.cls idx q') (hR : RM q q') (hz : q'.2.2.2.2.cells = 0 ∧ q'.2.2.2.2.slots = 0) (hk : k ≤ q.2.2.2.2.cells ∧ n ≤ q.2.2.2.2.slots) (hc : Calls Γ q' As G M (rI P)) (hn : As.length = na) (hst : st = As.reverse ++ rest) (hW : Nat.ble ((rest.map fun v => v.category).sum) 8 = true) (hLn : L.length = q.2.2.1) (d : decode q.2.1 pc = .ok (.invokestatic idx, 3)) (kk : ∀ (v : Int32) (M' : MM), P v M' → X Γ E k n G z M' (pc + 3) L (.int v :: rest)) : X Γ E k n G z M pc L st :=
  x_invS h ci sm lk hR hz.1 hz.2 hk (hc z) hn hst hW hLn d (fun r G' z' M' hp => by obtain ⟨rfl, rfl, v, rfl, hp⟩ := hp; exact kk v M' hp)
theorem x_cSl (h : Ok Γ E q) {q' : MD} {na idx : Nat} {As rest : List Value} {P : Int64 → MM → Prop} (ci : CI q' na) (sm : KW (.static q'.1)) (lk : LK q.1.cls idx q') (hR : RM q q') (hz : q'.2.2.2.2.cells = 0 ∧ q'.2.2.2.2.slots = 0) (hk : k ≤ q.2.2.2.2.cells ∧ n ≤ q.2.2.2.2.slots) (hc : Calls Γ q' As G M (rL P)) (hn : As.length = na) (hst : st = As.reverse ++ rest) (hW : Nat.ble ((rest.map fun v => v.category).sum) 8 = true) (hLn : L.length = q.2.2.1) (d : decode q.2.1 pc = .ok (.invokestatic idx, 3)) (kk : ∀ (v : Int64) (M' : MM), P v M' → X Γ E k n G z M' (pc + 3) L (.long v :: rest)) : X Γ E k n G z M pc L st :=
  x_invS h ci sm lk hR hz.1 hz.2 hk (hc z) hn hst hW hLn d (fun r G' z' M' hp => by obtain ⟨rfl, rfl, v, rfl, hp⟩ := hp; exact kk v M' hp)
theorem x_cSr (h : Ok Γ E q) {q' : MD} {na idx : Nat} {As rest : List Value} {P : Nat → MM → Prop} (ci : CI q' na) (sm : KW (.static q'.1)) (lk : LK q.1.cls idx q') (hR : RM q q') (hz : q'.2.2.2.2.cells = 0 ∧ q'.2.2.2.2.slots = 0) (hk : k ≤ q.2.2.2.2.cells ∧ n ≤ q.2.2.2.2.slots) (hc : Calls Γ q' As G M (rR P)) (hn : As.length = na) (hst : st = As.reverse ++ rest) (hW : Nat.ble ((rest.map fun v => v.category).sum) 8 = true) (hLn : L.length = q.2.2.1) (d : decode q.2.1 pc = .ok (.invokestatic idx, 3)) (kk : ∀ (v : Nat) (M' : MM), P v M' → X Γ E k n G z M' (pc + 3) L (.ref v :: rest)) : X Γ E k n G z M pc L st :=
  x_invS h ci sm lk hR hz.1 hz.2 hk (hc z) hn hst hW hLn d (fun r G' z' M' hp => by obtain ⟨rfl, rfl, v, rfl, hp⟩ := hp; exact kk v M' hp)
theorem x_obj (h : Ok Γ E q) {idx a : Nat} (hl : KW (.methodLink q.1.cls idx objectInit)) (hi : KW (.instanceMethod objectInit)) (hcd : KW (.code objectInit ⟨#[0xb1]⟩ 1 none)) (hLn : L.length = q.2.2.1) (hf : 1 ≤ q.2.2.2.2.frames) (hlo : 20 ≤ q.2.2.2.2.locals) (hW : Nat.ble ((st.map fun v => v.category).sum) 8 = true) (d : decode q.2.1 pc = .ok (.invokespecial idx, 3)) (kk : X Γ E k n G z M (pc + 3) L st) : X Γ E k n G z M pc L (.ref a :: st) := fun H locs ls hH hF hL => by
  refine W.objInit h.1 h.2.1 h.2.2.2.2.2.1 (h.ks.at hl) (h.ks.at hi) (h.ks.at hcd) rfl (by rw [h.2.2.1]; exact hL.1.trans hLn) rfl d (by rw [h.2.2.2.2.1]; exact hf) ?_ (kk H locs ls hH hF hL)
  rw [h.2.2.2.2.1]
  have := lv_room (m := E.1.2.2.2) (pc := pc) (ls := ls) (rest := .ref a :: st) (Nat.le_of_ble_eq_true hW)
  omega
/-- a cell that has just been made: zeros -/
def zr (M : MM) (a : Nat) : MM := (fun b j => if b = a then 0 else M.1 b j, fun b j => if b = a then 0 else M.2.1 b j, fun b j => if b = a then .null else M.2.2 b j)
def gup (G : GG) (a : Nat) (kd : KD) : GG := fun b => if b = a then some kd else G b
theorem zr_off (M : MM) (a b : Nat) (hb : b ≠ a) : (∀ j, M.1 b j = (zr M a).1 b j) ∧ (∀ j, M.2.1 b j = (zr M a).2.1 b j) ∧ ∀ j, M.2.2 b j = (zr M a).2.2 b j := by simp [zr, hb]
theorem vty_zr (ty : FieldType) (hd : ty ≠ .double ∧ ty ≠ .float) (M : MM) (a j : Nat) : defaultValue ty = vty ty (zr M a) a j := by
  cases ty <;> first | exact absurd rfl hd.1 | exact absurd rfl hd.2 | simp [vty, zr, defaultValue]
theorem HI.new {Γ : GT} {G : GG} {z : Nat} {M : MM} {H H' : Heap} {kd : KD} (h : HI Γ G z M H) (hsz : H'.size = z + 1) (ho : ∀ q : Nat, q < z → H'[q]? = H[q]?) (hA : HA Γ (zr M z) H' z kd) : HI Γ (gup G z kd) (z + 1) (zr M z) H' := by
  obtain ⟨h1, h2, h3, h4⟩ := h
  refine ⟨hsz, by omega, fun q hq => (ho q (by omega)).trans (h3 q hq), fun b kb hb => ?_⟩
  unfold gup at hb
  by_cases hbz : b = z
  · subst hbz
    rw [if_pos rfl] at hb
    cases hb
    exact ⟨h2, hA⟩
  · rw [if_neg hbz] at hb
    have hlt := (h4 b kb hb).2.lt
    obtain ⟨s1, s2, s3⟩ := zr_off M z b hbz
    exact ⟨(h4 b kb hb).1, ((h4 b kb hb).2.kept (ho b (by omega))).to s1 s2 s3⟩
set_option maxRecDepth 100000 in
theorem cY_nd : ∀ ci, ci < 13 → ∀ fi, fi < cN ci → cY ci fi ≠ .double ∧ cY ci fi ≠ .float := by decide +kernel
theorem x_new (h : Ok Γ E q) {idx ci : Nat} (hc : ci < 13) (hcl : KW (.classLink q.1.cls idx (cR ci))) (hin : KW (.instantiable (cR ci) (cN ci))) (hini : KW (.initialized (cR ci))) (hk : k + 1 ≤ q.2.2.2.2.cells ∧ n + cN ci ≤ q.2.2.2.2.slots) (d : decode q.2.1 pc = .ok (.new idx, 3))
    (kk : X Γ E (k + 1) (n + cN ci) (gup G z (.inl ci)) (z + 1) (zr M z) (pc + 3) L (.ref z :: st)) : X Γ E k n G z M pc L st := fun H locs ls hH hF hL => by
  have hKn := h.ks.1 ci hc
  refine W.newcK h.1 h.2.1 h.2.2.2.2.2.1 (h.ks.at hcl) (h.ks.at hin) (h.ks.at hini) rfl d (by rw [h.2.2.2.2.1]; exact hk.1) (by rw [h.2.2.2.2.1]; exact hk.2) hKn.2.1 hH.1 fun H1 kC hkC e1 z1 o1 => ?_
  refine kk H1 locs ls (HI.new hH z1 o1 ?_) hF hL
  exact (u_born (args := #[]) (fun k => cY ci k) (h.ks.lays hc) (fun _ h => h) hKn hkC e1 (cY_ok ci hc)).to (fun j hj => vty_zr _ (cY_nd ci hc j hj) M z j)
theorem x_newa (h : Ok Γ E q) {at' : ArrayType} {ty : FieldType} {i : Int32} (m : Nat) (hty : newarray.typeOf at' = ty) (hw : KW (.arrayClass ty)) (hmem : ty ∈ aTys) (hobj : tk ty < 2) (hi : ¬ i < 0 ∧ i.toNatClampNeg = m) (hb : Nat.ble m 1000000 = true) (hk : k + 1 ≤ q.2.2.2.2.cells ∧ n + m ≤ q.2.2.2.2.slots) (d : decode q.2.1 pc = .ok (.newarray at', 2))
    (kk : X Γ E (k + 1) (n + m) (gup G z (.inr (ty, m))) (z + 1) (zr M z) (pc + 2) L (.ref z :: st)) : X Γ E k n G z M pc L (.int i :: st) := fun H locs ls hH hF hL => by
  subst hty
  have hcb : componentBytes (newarray.typeOf at') ≤ 8 := by cases at' <;> decide
  have hm : m ≤ 1000000 := Nat.le_of_ble_eq_true hb
  refine va_newaK h.1 h.2.1 (h.ks.at hw) rfl d rfl hi.1 hi.2 (Nat.le_trans (Nat.mul_le_mul hm hcb) (by decide)) (by rw [h.2.2.2.2.1]; exact hk.1) (by rw [h.2.2.2.2.1]; exact hk.2) hH.1 fun H1 cA e1 z1 o1 hAr hNm => ?_
  refine kk H1 locs ls (HI.new hH z1 o1 ?_) hF hL
  have hcA : Γ.2.2.1 (newarray.typeOf at') = cA := by
    have h2 := (h.ks.2.1 _ hmem).2
    revert hNm h2
    cases at' <;> intro hNm h2 <;> first | exact Option.some.inj (h2.symm.trans hNm) | (exact absurd hmem (by decide))
  show H1[z]? = some (arrV (Γ.2.2.1 (newarray.typeOf at')) m (fun j => vty (newarray.typeOf at') (zr M z) z j))
  rw [hcA, e1, funext (fun j => vty_zr (newarray.typeOf at') (by revert hmem; cases at' <;> intro hmem <;> first | (exact ⟨by decide, by decide⟩) | exact absurd hmem (by decide)) M z j)]
theorem x_anew (h : Ok Γ E q) {idx : Nat} {C : String} {i : Int32} (m : Nat) (hcl : KW (.classLink q.1.cls idx C)) (hov : KW (.arrayOver (.object C))) (hmem : FieldType.object C ∈ aTys) (hi : ¬ i < 0 ∧ i.toNatClampNeg = m) (hb : Nat.ble m 1000000 = true) (hk : k + 1 ≤ q.2.2.2.2.cells ∧ n + m ≤ q.2.2.2.2.slots) (d : decode q.2.1 pc = .ok (.anewarray idx, 3))
    (kk : X Γ E (k + 1) (n + m) (gup G z (.inr (.object C, m))) (z + 1) (zr M z) (pc + 3) L (.ref z :: st)) : X Γ E k n G z M pc L (.int i :: st) := fun H locs ls hH hF hL => by
  have hm : m ≤ 1000000 := Nat.le_of_ble_eq_true hb
  obtain ⟨hi0, rfl⟩ := hi
  refine W.anew h.1 h.2.1 h.2.2.2.2.2.1 (h.ks.at hcl) (h.ks.at hov) rfl d rfl hi0 (Nat.le_trans (Nat.mul_le_mul_right 4 hm) (by decide)) (by rw [h.2.2.2.2.1]; exact hk.1) (by rw [h.2.2.2.2.1]; exact hk.2) fun cA kA comp f1 f2 f3 f4 => ?_
  have hz : H.size = z := hH.1
  rw [hz]
  refine kk _ locs ls (HI.new hH (by rw [Array.size_push, hz]) (fun p hp => by rw [Array.getElem?_push, if_neg (by omega)]) ?_) hF hL
  have hcA : Γ.2.2.1 (.object C) = cA := by
    obtain ⟨_, _, _, _, _, h4⟩ := (h.ks.2.1 _ hmem).2
    exact Option.some.inj (h4.symm.trans f1)
  show (H.push _)[z]? = some (arrV (Γ.2.2.1 (.object C)) i.toNatClampNeg (fun j => vty (.object C) (zr M z) z j))
  rw [hcA, ← hz, Array.getElem?_push_size, ← funext (fun j => vty_zr (.object C) ⟨(fun h => by cases h), (fun h => by cases h)⟩ M H.size j)]
  exact congrArg some (arrV_new _ _ _)
end PROWS
