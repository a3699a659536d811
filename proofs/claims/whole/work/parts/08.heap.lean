/-! ===== ROWS OVER THE HEAP: fields, arrays, calls, ends ===== -/
theorem HI.upd {Γ : GT} {G : GG} {z : Nat} {M M' : MM} {H H' : Heap} {a : Nat} {kd : KD} (h : HI Γ G z M H) (hsz : H'.size = H.size) (ho : ∀ q : Nat, q ≠ a → H'[q]? = H[q]?) (hG : G a = some kd) (hA : HA Γ M' H' a kd)
    (hs : ∀ b, b ≠ a → (∀ k, M.1 b k = M'.1 b k) ∧ (∀ k, M.2.1 b k = M'.2.1 b k) ∧ ∀ k, M.2.2 b k = M'.2.2 b k) : HI Γ G z M' H' := by
  obtain ⟨h1, h2, h3, h4⟩ := h
  have ha := (h4 a kd hG).1
  refine ⟨hsz.trans h1, h2, fun q hq => (ho q (by omega)).trans (h3 q hq), fun b kb hb => ⟨(h4 b kb hb).1, ?_⟩⟩
  by_cases hba : b = a
  · subst hba
    rw [hG] at hb
    cases hb
    exact hA
  · obtain ⟨s1, s2, s3⟩ := hs b hba
    exact ((h4 b kb hb).2.kept (ho b hba)).to s1 s2 s3
theorem sI_off (M : MM) (a k : Nat) (v : Int32) : ∀ b, b ≠ a → (∀ j, M.1 b j = (sI M a k v).1 b j) ∧ (∀ j, M.2.1 b j = (sI M a k v).2.1 b j) ∧ ∀ j, M.2.2 b j = (sI M a k v).2.2 b j :=
  fun b hb => ⟨fun j => (up2_ne _ _ (fun q => hb q.1)).symm, fun _ => rfl, fun _ => rfl⟩
theorem sL_off (M : MM) (a k : Nat) (v : Int64) : ∀ b, b ≠ a → (∀ j, M.1 b j = (sL M a k v).1 b j) ∧ (∀ j, M.2.1 b j = (sL M a k v).2.1 b j) ∧ ∀ j, M.2.2 b j = (sL M a k v).2.2 b j :=
  fun b hb => ⟨fun _ => rfl, fun j => (up2_ne _ _ (fun q => hb q.1)).symm, fun _ => rfl⟩
theorem sR_off (M : MM) (a k : Nat) (v : Value) : ∀ b, b ≠ a → (∀ j, M.1 b j = (sR M a k v).1 b j) ∧ (∀ j, M.2.1 b j = (sR M a k v).2.1 b j) ∧ ∀ j, M.2.2 b j = (sR M a k v).2.2 b j :=
  fun b hb => ⟨fun _ => rfl, fun _ => rfl, fun j => (up2_ne _ _ (fun q => hb q.1)).symm⟩
/-- of which part of the memory a type is: 0 ints, 1 longs, 2 references -/
def tk (ty : FieldType) : Nat := match ty with
  | .long => 1
  | .object _ => 2
  | .array _ => 2
  | _ => 0
theorem vty_I {ty : FieldType} (h : tk ty = 0) (M : MM) (a k : Nat) : vty ty M a k = .int (M.1 a k) := by cases ty <;> first | rfl | cases h
theorem vty_L {ty : FieldType} (h : tk ty = 1) (M : MM) (a k : Nat) : vty ty M a k = .long (M.2.1 a k) := by cases ty <;> first | rfl | cases h
theorem vty_R {ty : FieldType} (h : tk ty = 2) (M : MM) (a k : Nat) : vty ty M a k = M.2.2 a k := by cases ty <;> first | rfl | cases h
/-- a field by its number in the class's pool -/
def FL (own : String) (idx ci fi : Nat) : Prop := ci < 13 ∧ fi < cN ci ∧ (KW (Cond.fieldLink own idx (cR ci) (cT ci fi).2.1 (cT ci fi).2.2.1) ∨ ∃ host, KW (Cond.fieldLinkNest own idx (cR ci) (cT ci fi).2.1 (cT ci fi).2.2.1 host))
set_option maxRecDepth 100000 in
theorem cT_own : ∀ ci, ci < 13 → ∀ fi, fi < cN ci → (cT ci fi).1 = cR ci := by decide +kernel
set_option maxRecDepth 100000 in
theorem cY_ok : ∀ ci, ci < 13 → ∀ fi, fi < cN ci → parseFieldDescriptor (cT ci fi).2.2.1 = some (cY ci fi) := by decide +kernel
set_option maxRecDepth 100000 in
theorem cT_nm : ∀ ci, ci < 13 → ∀ a, a < cN ci → ∀ b, b < cN ci → a ≠ b → (cT ci a).2.1 ≠ (cT ci b).2.1 := by decide +kernel
set_option maxRecDepth 100000 in
theorem cT_in : ∀ ci, ci < 13 → ∀ w ∈ u_ws (cR ci) (cT ci) (cN ci), w ∈ lw_tbl ∧ wOK w = true := by decide +kernel
theorem KS.lays {Γ : GT} {s : State} (h : KS Γ s) {ci : Nat} (hc : ci < 13) {a' : Array Value} : ∀ w ∈ u_ws (cR ci) (cT ci) (cN ci), w.before a' s = true := fun w hw => h.at (cT_in ci hc w hw)
theorem KS.apart {Γ : GT} {s : State} (h : KS Γ s) {ci : Nat} (hc : ci < 13) : ∀ x y, x < cN ci → y < cN ci → x ≠ y → (Γ.2.1.2 ci) x ≠ (Γ.2.1.2 ci) y := by
  intro x y hx hy hne
  obtain ⟨hS, -⟩ := h.1 ci hc
  obtain ⟨_, _, _, fa, hia, ea⟩ := hS x hx
  obtain ⟨_, _, _, fb, hib, eb⟩ := hS y hy
  rw [← ea, ← eb]
  refine u_apart (u_lays (args := #[]) (h.lays hc) (fun _ h => h) hx) (u_lays (h.lays hc) (fun _ h => h) hy) hia hib ?_
  rw [(State.fieldFound?_type hia (cY_ok ci hc x hx)).1, (State.fieldFound?_type hib (cY_ok ci hc y hy)).1]
  exact cT_nm ci hc x hx y hy hne
section HROWS
variable {Γ : GT} {E : CT} {q : MD} {k n : Nat} {G : GG} {z : Nat} {M : MM} {pc : Nat} {L : List (Option Value)} {st : List Value}
theorem x_get (h : Ok Γ E q) {a ci fi idx : Nat} {v : Value} (hG : G a = some (.inl ci)) (hf : FL q.1.cls idx ci fi) (hv : vty (cY ci fi) M a fi = v) (d : decode q.2.1 pc = .ok (.getfield idx, 3)) (kk : X Γ E k n G z M (pc + 3) L (v :: st)) : X Γ E k n G z M pc L (.ref a :: st) := fun H locs ls hH hF hL => by
  obtain ⟨hc, hfi, hlk⟩ := hf
  obtain ⟨hx, hb, -, -, -, hown, -, -, hK⟩ := h
  obtain ⟨cell, q1, q2, q3, q4⟩ := (hH.2.2.2 a _ hG).2
  obtain ⟨hS, hfc, kC, hkC, hkind⟩ := hK.1 ci hc
  obtain ⟨cf, kf, fi', f, hi, hsl⟩ := hS fi hfi
  have hfacts := (u_facts hfc hkC (u_lays (args := #[]) (hK.lays hc) (fun _ h => h) hfi) hi).1
  have hval : cell.slots[f.slot]? = some v := by rw [hsl, q4 fi hfi, ← hv]
  rcases hlk with hl | ⟨host, hl⟩
  · exact W.getf hx hb hown (hK.at hl) (cT_own ci hc fi hfi ▸ hi) hfacts q1 (by rw [q3]; exact fun h => by cases h) hval rfl rfl d (kk H locs ls hH hF hL)
  · exact va_Wgetf hx hb hown (hK.at hl) (cT_own ci hc fi hfi ▸ hi) hfacts q1 (by rw [q3]; exact fun h => by cases h) hval rfl rfl d (kk H locs ls hH hF hL)
theorem x_getI (h : Ok Γ E q) {a ci fi idx : Nat} (hG : G a = some (.inl ci)) (hf : FL q.1.cls idx ci fi) (ht : tk (cY ci fi) = 0) (d : decode q.2.1 pc = .ok (.getfield idx, 3)) (kk : X Γ E k n G z M (pc + 3) L (.int (M.1 a fi) :: st)) : X Γ E k n G z M pc L (.ref a :: st) := x_get h hG hf (vty_I ht M a fi) d kk
theorem x_getL (h : Ok Γ E q) {a ci fi idx : Nat} (hG : G a = some (.inl ci)) (hf : FL q.1.cls idx ci fi) (ht : tk (cY ci fi) = 1) (d : decode q.2.1 pc = .ok (.getfield idx, 3)) (kk : X Γ E k n G z M (pc + 3) L (.long (M.2.1 a fi) :: st)) : X Γ E k n G z M pc L (.ref a :: st) := x_get h hG hf (vty_L ht M a fi) d kk
theorem x_getR (h : Ok Γ E q) {a ci fi idx : Nat} (hG : G a = some (.inl ci)) (hf : FL q.1.cls idx ci fi) (ht : tk (cY ci fi) = 2) {v : Value} (hr : M.2.2 a fi = v) (d : decode q.2.1 pc = .ok (.getfield idx, 3)) (kk : X Γ E k n G z M (pc + 3) L (v :: st)) : X Γ E k n G z M pc L (.ref a :: st) := x_get h hG hf ((vty_R ht M a fi).trans hr) d kk
theorem x_put (h : Ok Γ E q) {a ci fi idx : Nat} {v : Value} {M' : MM} (hG : G a = some (.inl ci)) (hf : FL q.1.cls idx ci fi) (hfin : (cT ci fi).2.2.2 = false) (hn : narrow (cY ci fi) v = v) (hfit : fits (cY ci fi) v = true)
    (hM : ∀ j, j < cN ci → updV (fun k => vty (cY ci k) M a k) fi v j = vty (cY ci j) M' a j) (hs : ∀ b, b ≠ a → (∀ k, M.1 b k = M'.1 b k) ∧ (∀ k, M.2.1 b k = M'.2.1 b k) ∧ ∀ k, M.2.2 b k = M'.2.2 b k)
    (d : decode q.2.1 pc = .ok (.putfield idx, 3)) (kk : X Γ E k n G z M' (pc + 3) L st) : X Γ E k n G z M pc L (v :: .ref a :: st) := fun H locs ls hH hF hL => by
  obtain ⟨hc, hfi, hlk⟩ := hf
  obtain ⟨hx, hb, -, -, -, hown, -, -, hK⟩ := h
  have hap := hK.apart hc
  obtain ⟨hga, cell, q1, q2, q3, q4⟩ := hH.2.2.2 a _ hG
  obtain ⟨hS, hfc, kC, hkC, hkind⟩ := hK.1 ci hc
  obtain ⟨cf, kf, fi', f, hi, hsl⟩ := hS fi hfi
  have hlay := hK.lays (a' := #[]) hc _ (u_in_lay hfi)
  unfold u_lay at hlay
  rw [if_neg (by rw [hfin]; decide)] at hlay
  have hst := (u_facts hfc hkC (u_lays (args := #[]) (hK.lays hc) (fun _ h => h) hfi) hi).1
  have h6 := u_store hfc hkC hkind hlay hi (cY_ok ci hc fi hfi) hn hfit
  have go : ∀ H' : Heap, H'[a]? = some (cell.setSlot f.slot v) → H'.size = H.size → (∀ q, q ≠ a → H'[q]? = H[q]?) → HI Γ G z M' H' := by
    intro H' e1 e2 e3
    rw [hsl] at e1
    exact HI.upd hH e2 e3 hG (t_OB.to (V := updV (fun k => vty (cY ci k) M a k) fi v) ⟨_, e1, q2, q3, t_set q4 hap hfi v⟩ hM) hs
  have hF' : ∀ q ∈ locs ++ [(⟨a, f.slot⟩ : Loc)], Γ.2.2.2.1.size ≤ q.base := t_lc hF hga
  rcases hlk with hl | ⟨host, hl⟩
  · exact W.putK hx hb (f := f) ⟨hown, hK.at hl, ⟨_, _, _, cT_own ci hc fi hfi ▸ hi⟩, hst⟩ (by rw [q2]; exact h6) q1 q3 (by rw [hsl]; exact k2_hasslot (q4 fi hfi)) rfl rfl d fun H' e1 e2 e3 => kk H' _ ls (go H' e1 e2 e3) hF' hL
  · exact va_WputK hx hb (f := f) hown (hK.at hl) (cT_own ci hc fi hfi ▸ hi) hst (by rw [q2]; exact h6) q1 q3 (by rw [hsl]; exact k2_hasslot (q4 fi hfi)) rfl rfl d fun H' e1 e2 e3 => kk H' _ ls (go H' e1 e2 e3) hF' hL
theorem updV_I (M : MM) {ci fi : Nat} (ht : tk (cY ci fi) = 0) (a : Nat) (x : Int32) (j : Nat) : updV (fun k => vty (cY ci k) M a k) fi (.int x) j = vty (cY ci j) (sI M a fi x) a j := by
  by_cases hj : j = fi
  · subst hj
    simp [updV, vty_I ht, sI, up2]
  · simp only [updV, if_neg hj]
    cases cY ci j <;> simp [vty, sI, up2, hj]
theorem updV_L (M : MM) {ci fi : Nat} (ht : tk (cY ci fi) = 1) (a : Nat) (x : Int64) (j : Nat) : updV (fun k => vty (cY ci k) M a k) fi (.long x) j = vty (cY ci j) (sL M a fi x) a j := by
  by_cases hj : j = fi
  · subst hj
    simp [updV, vty_L ht, sL, up2]
  · simp only [updV, if_neg hj]
    cases cY ci j <;> simp [vty, sL, up2, hj]
theorem updV_R (M : MM) {ci fi : Nat} (ht : tk (cY ci fi) = 2) (a : Nat) (x : Value) (j : Nat) : updV (fun k => vty (cY ci k) M a k) fi x j = vty (cY ci j) (sR M a fi x) a j := by
  by_cases hj : j = fi
  · subst hj
    simp [updV, vty_R ht, sR, up2]
  · simp only [updV, if_neg hj]
    cases cY ci j <;> simp [vty, sR, up2, hj]
theorem x_putI (h : Ok Γ E q) {a ci fi idx : Nat} {x : Int32} (hG : G a = some (.inl ci)) (hf : FL q.1.cls idx ci fi) (hty : cY ci fi = .int) (hfin : (cT ci fi).2.2.2 = false) (d : decode q.2.1 pc = .ok (.putfield idx, 3)) (kk : X Γ E k n G z (sI M a fi x) (pc + 3) L st) : X Γ E k n G z M pc L (.int x :: .ref a :: st) :=
  x_put h hG hf hfin (by rw [hty]; rfl) (by rw [hty]; rfl) (fun j _ => updV_I M (by rw [hty]; rfl) a x j) (sI_off M a fi x) d kk
theorem x_putZ (h : Ok Γ E q) {a ci fi idx : Nat} {x : Int32} (hG : G a = some (.inl ci)) (hf : FL q.1.cls idx ci fi) (hty : cY ci fi = .boolean) (hfin : (cT ci fi).2.2.2 = false) (hx : x = 0 ∨ x = 1) (d : decode q.2.1 pc = .ok (.putfield idx, 3)) (kk : X Γ E k n G z (sI M a fi x) (pc + 3) L st) : X Γ E k n G z M pc L (.int x :: .ref a :: st) :=
  x_put h hG hf hfin (by rw [hty]; rcases hx with rfl | rfl <;> rfl) (by rw [hty]; rcases hx with rfl | rfl <;> rfl) (fun j _ => updV_I M (by rw [hty]; rfl) a x j) (sI_off M a fi x) d kk
theorem x_putL (h : Ok Γ E q) {a ci fi idx : Nat} {x : Int64} (hG : G a = some (.inl ci)) (hf : FL q.1.cls idx ci fi) (hty : cY ci fi = .long) (hfin : (cT ci fi).2.2.2 = false) (d : decode q.2.1 pc = .ok (.putfield idx, 3)) (kk : X Γ E k n G z (sL M a fi x) (pc + 3) L st) : X Γ E k n G z M pc L (.long x :: .ref a :: st) :=
  x_put h hG hf hfin (by rw [hty]; rfl) (by rw [hty]; rfl) (fun j _ => updV_L M (by rw [hty]; rfl) a x j) (sL_off M a fi x) d kk
theorem x_putR (h : Ok Γ E q) {a ci fi idx : Nat} {v : Nat} (hG : G a = some (.inl ci)) (hf : FL q.1.cls idx ci fi) (hty : tk (cY ci fi) = 2) (hfin : (cT ci fi).2.2.2 = false) (d : decode q.2.1 pc = .ok (.putfield idx, 3)) (kk : X Γ E k n G z (sR M a fi (.ref v)) (pc + 3) L st) : X Γ E k n G z M pc L (.ref v :: .ref a :: st) :=
  x_put h hG hf hfin (by revert hty; cases cY ci fi <;> intro hty <;> first | rfl | cases hty) (by revert hty; cases cY ci fi <;> intro hty <;> first | rfl | cases hty) (fun j _ => updV_R M hty a (.ref v) j) (sR_off M a fi (.ref v)) d kk
end HROWS
