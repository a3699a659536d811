/-! ===== making objects: rows and frames ===== -/
def rC (P : GG → Nat → MM → Prop) : PG := fun r G' z' M' => r = none ∧ P G' z' M'
def rA (P : Nat → GG → Nat → MM → Prop) : PG := fun r G' z' M' => ∃ a : Nat, r = some (.ref a) ∧ P a G' z' M'
section CR
variable {Γ : GT} {E : CT} {q : MD} {k n : Nat} {G : GG} {z : Nat} {M : MM} {pc : Nat} {L : List (Option Value)} {st : List Value}
theorem x_cI (h : Ok Γ E q) {q' : MD} {na idx b mc ms : Nat} {As rest : List Value} {P : GG → Nat → MM → Prop} (ci : CI q' na) (im : KW (.instanceMethod q'.1)) (hini : q'.1.name = "<init>") (hret : q'.2.2.2.1 = none) (lk : LK q.1.cls idx q') (hR : RM q q') (hrc : q'.2.2.2.2.cells = mc) (hrs : q'.2.2.2.2.slots = ms) (hk : k + mc ≤ q.2.2.2.2.cells ∧ n + ms ≤ q.2.2.2.2.slots)
    (hc : CallsG Γ q' (.ref b :: As) G z M (rC P) mc ms) (hn : As.length = na) (hst : st = As.reverse ++ .ref b :: rest) (hW : Nat.ble ((rest.map fun v => v.category).sum) 8 = true) (hLn : L.length = q.2.2.1) (d : decode q.2.1 pc = .ok (.invokespecial idx, 3)) (kk : ∀ (G' : GG) (z' : Nat) (M' : MM), P G' z' M' → X Γ E (k + mc) (n + ms) G' z' M' (pc + 3) L rest) : X Γ E k n G z M pc L st :=
  x_invI h ci im hini hret lk hR hrc hrs hk hc hn hst hW hLn d (fun r G' z' M' hp => by obtain ⟨rfl, hp⟩ := hp; exact kk G' z' M' hp)
theorem x_cSA (h : Ok Γ E q) {q' : MD} {na idx mc ms : Nat} {As rest : List Value} {P : Nat → GG → Nat → MM → Prop} (ci : CI q' na) (sm : KW (.static q'.1)) (lk : LK q.1.cls idx q') (hR : RM q q') (hrc : q'.2.2.2.2.cells = mc) (hrs : q'.2.2.2.2.slots = ms) (hk : k + mc ≤ q.2.2.2.2.cells ∧ n + ms ≤ q.2.2.2.2.slots)
    (hc : CallsG Γ q' As G z M (rA P) mc ms) (hn : As.length = na) (hst : st = As.reverse ++ rest) (hW : Nat.ble ((rest.map fun v => v.category).sum) 8 = true) (hLn : L.length = q.2.2.1) (d : decode q.2.1 pc = .ok (.invokestatic idx, 3)) (kk : ∀ (a : Nat) (G' : GG) (z' : Nat) (M' : MM), P a G' z' M' → X Γ E (k + mc) (n + ms) G' z' M' (pc + 3) L (.ref a :: rest)) : X Γ E k n G z M pc L st :=
  x_invS h ci sm lk hR hrc hrs hk hc hn hst hW hLn d (fun r G' z' M' hp => by obtain ⟨a, rfl, hp⟩ := hp; exact kk a G' z' M' hp)
/-- a final field, in the constructor -/
theorem x_putFR (h : Ok Γ E q) {a ci fi idx v : Nat} (hG : G a = some (.inl ci)) (hc : ci < 13) (hfi : fi < cN ci) (hl : KW (Cond.fieldLink q.1.cls idx (cR ci) (cT ci fi).2.1 (cT ci fi).2.2.1)) (hty : tk (cY ci fi) = 2) (hfin : (cT ci fi).2.2.2 = true) (hin : q.1.name = "<init>") (hcl : cR ci = q.1.cls) (d : decode q.2.1 pc = .ok (.putfield idx, 3)) (kk : X Γ E k n G z (sR M a fi (.ref v)) (pc + 3) L st) : X Γ E k n G z M pc L (.ref v :: .ref a :: st) := fun H locs ls hH hF hL => by
  obtain ⟨hx, hb, -, -, -, hown, -, hmn, hK⟩ := h
  have hap := hK.apart hc
  obtain ⟨hga, cell, q1, q2, q3, q4⟩ := hH.2.2.2 a _ hG
  obtain ⟨hS, hfc, kC, hkC, hkind⟩ := hK.1 ci hc
  obtain ⟨cf, kf, fi', f, hi, hsl⟩ := hS fi hfi
  have hlay := hK.lays (a' := #[]) hc _ (u_in_lay hfi)
  unfold u_lay at hlay
  rw [if_pos hfin] at hlay
  have hst := (u_facts hfc hkC (u_lays (args := #[]) (hK.lays hc) (fun _ h => h) hfi) hi).1
  have hcf : E.1.2.2.2.cls = cf := by
    obtain ⟨_, _, c', _, _, _, -, -, hf', -, -, -, hown2, -⟩ := Cond.laysFinal_spec hlay
    have e1 : c' = cf := by have := hi.symm.trans hf'; simp at this; exact this.1.symm
    rw [cT_own ci hc fi hfi, hcl] at hown2
    rw [← e1]; exact Option.some.inj (hown.symm.trans hown2)
  have hn : narrow (cY ci fi) (.ref v) = .ref v := by revert hty; cases cY ci fi <;> intro hty <;> first | rfl | cases hty
  have hfit : fits (cY ci fi) (.ref v) = true := by revert hty; cases cY ci fi <;> intro hty <;> first | rfl | cases hty
  have h6 := u_fits hfc hkC hkind (Or.inr hlay) hi (cY_ok ci hc fi hfi) hn hfit
  refine W.putFinK hx hb hown (hK.at hl) (cT_own ci hc fi hfi ▸ hi) hst hcf (hmn.trans hin) (by rw [q2]; exact h6) q1 q3 (by rw [hsl]; exact k2_hasslot (q4 fi hfi)) rfl rfl d fun H' e1 e2 e3 => ?_
  rw [hsl] at e1
  refine kk H' _ ls (HI.upd hH e2 e3 hG (t_OB.to (V := updV (fun k => vty (cY ci k) M a k) fi (.ref v)) ⟨_, e1, q2, q3, t_set q4 hap hfi (.ref v)⟩ (fun j _ => updV_R M hty a (.ref v) j)) (sR_off M a fi (.ref v))) (t_lc hF hga) hL
end CR
/-- cells z up to z' are new, and all zeros but references -/
def exN (z z' : Nat) (G G' : GG) (M M' : MM) : Prop := (∀ a, a < z ∨ z' ≤ a → G' a = G a) ∧ (∀ a, a < z → (∀ j, M'.1 a j = M.1 a j) ∧ (∀ j, M'.2.1 a j = M.2.1 a j) ∧ ∀ j, M'.2.2 a j = M.2.2 a j) ∧ (∀ a j, z ≤ a → a < z' → M'.1 a j = 0 ∧ M'.2.1 a j = 0) ∧ ∀ a, z ≤ a → a < z' → DG G' a = true → a + 1 < z'
/-- the same, b being made: its references may have changed -/
def exB (b z' : Nat) (G G' : GG) (M M' : MM) : Prop := (∀ a, a ≤ b ∨ z' ≤ a → G' a = G a) ∧ (∀ a, a < b → (∀ j, M'.1 a j = M.1 a j) ∧ (∀ j, M'.2.1 a j = M.2.1 a j) ∧ ∀ j, M'.2.2 a j = M.2.2 a j) ∧ (∀ j, M'.1 b j = M.1 b j ∧ M'.2.1 b j = M.2.1 b j) ∧ (∀ a j, b < a → a < z' → M'.1 a j = 0 ∧ M'.2.1 a j = 0) ∧ ∀ a, b < a → a < z' → DG G' a = true → a + 1 < z'
theorem exB_0 (b : Nat) (G : GG) (M : MM) : exB b (b + 1) G G M M := ⟨fun _ _ => rfl, fun _ _ => ⟨fun _ => rfl, fun _ => rfl, fun _ => rfl⟩, fun _ => ⟨rfl, rfl⟩, fun a j h1 h2 => absurd h2 (by omega), fun a h1 h2 => absurd h2 (by omega)⟩
theorem exB_R {b z' : Nat} {G G' : GG} {M N : MM} (h : exB b z' G G' M N) (k : Nat) (v : Value) : exB b z' G G' M (sR N b k v) := ⟨h.1, fun a ha => ⟨(h.2.1 a ha).1, (h.2.1 a ha).2.1, fun j => (up2_ne _ _ (by omega)).trans ((h.2.1 a ha).2.2 j)⟩, h.2.2.1, h.2.2.2.1, h.2.2.2.2⟩
theorem exB_N {b z z' : Nat} {G G1 G' : GG} {M N N' : MM} (h : exB b z G G1 M N) (h' : exN z z' G1 G' N N') (hb : b < z) (hz : z ≤ z') : exB b z' G G' M N' := by
  refine ⟨fun a ha => (h'.1 a (by omega)).trans (h.1 a (by omega)), fun a ha => ⟨fun j => ((h'.2.1 a (by omega)).1 j).trans ((h.2.1 a ha).1 j), fun j => ((h'.2.1 a (by omega)).2.1 j).trans ((h.2.1 a ha).2.1 j), fun j => ((h'.2.1 a (by omega)).2.2 j).trans ((h.2.1 a ha).2.2 j)⟩, fun j => ⟨((h'.2.1 b hb).1 j).trans (h.2.2.1 j).1, ((h'.2.1 b hb).2.1 j).trans (h.2.2.1 j).2⟩, fun a j h1 h2 => ?_, fun a h1 h2 q => ?_⟩
  · rcases Nat.lt_or_ge a z with w | w
    · exact ⟨((h'.2.1 a w).1 j).trans (h.2.2.2.1 a j h1 w).1, ((h'.2.1 a w).2.1 j).trans (h.2.2.2.1 a j h1 w).2⟩
    · exact h'.2.2.1 a j w h2
  · rcases Nat.lt_or_ge a z with w | w
    · have q2 : DG G1 a = true := by unfold DG at q ⊢; rw [h'.1 a (by omega)] at q; exact q
      have := h.2.2.2.2 a h1 w q2
      omega
    · exact h'.2.2.2 a w h2 q
theorem DG_no {G : GG} {a : Nat} {kd : KD} (h : G a = some kd) (hk : kd ≠ .inl 9) : DG G a = false := by
  unfold DG
  rw [h]
  split
  · rename_i e; cases e; exact absurd rfl hk
  · rfl
theorem exN_new {z z' ci : Nat} {G G' : GG} {M M' : MM} (h : exB z z' (gup G z (.inl ci)) G' (zr M z) M') (hz : z < z') (h9 : ci = 9 → z + 1 < z') : exN z z' G G' M M' := by
  have gz : G' z = some (.inl ci) := (h.1 z (by omega)).trans (if_pos rfl)
  refine ⟨fun a ha => (h.1 a (by omega)).trans (if_neg (by omega)), fun a ha => ?_, fun a j h1 h2 => ?_, fun a h1 h2 q => ?_⟩
  · obtain ⟨s1, s2, s3⟩ := zr_off M z a (by omega)
    exact ⟨fun j => ((h.2.1 a ha).1 j).trans (s1 j).symm, fun j => ((h.2.1 a ha).2.1 j).trans (s2 j).symm, fun j => ((h.2.1 a ha).2.2 j).trans (s3 j).symm⟩
  · by_cases e : a = z
    · rw [e]
      exact ⟨(h.2.2.1 j).1.trans (if_pos rfl), (h.2.2.1 j).2.trans (if_pos rfl)⟩
    · exact h.2.2.2.1 a j (by omega) h2
  · by_cases e : a = z
    · rw [e]
      by_cases c9 : ci = 9
      · exact h9 c9
      · rw [e, DG_no gz (fun w => by cases w; exact c9 rfl)] at q
        cases q
    · exact h.2.2.2.2 a (by omega) h2 q
theorem exN_arr (z : Nat) (G : GG) (M : MM) (p : FieldType × Nat) : exN z (z + 1) G (gup G z (.inr p)) M (zr M z) := by
  refine ⟨fun a ha => if_neg (by omega), fun a ha => ?_, fun a j h1 h2 => ?_, fun a h1 h2 q => ?_⟩
  · obtain ⟨s1, s2, s3⟩ := zr_off M z a (by omega)
    exact ⟨fun j => (s1 j).symm, fun j => (s2 j).symm, fun j => (s3 j).symm⟩
  · obtain rfl : a = z := by omega
    exact ⟨if_pos rfl, if_pos rfl⟩
  · obtain rfl : a = z := by omega
    rw [DG_no (kd := .inr p) (if_pos rfl) (fun w => by cases w)] at q
    cases q
theorem exN_trans {z z1 z' : Nat} {G G1 G' : GG} {M N N' : MM} (h : exN z z1 G G1 M N) (h' : exN z1 z' G1 G' N N') (h1 : z ≤ z1) (h2 : z1 ≤ z') : exN z z' G G' M N' := by
  refine ⟨fun a ha => (h'.1 a (by omega)).trans (h.1 a (by omega)), fun a ha => ⟨fun j => ((h'.2.1 a (by omega)).1 j).trans ((h.2.1 a ha).1 j), fun j => ((h'.2.1 a (by omega)).2.1 j).trans ((h.2.1 a ha).2.1 j), fun j => ((h'.2.1 a (by omega)).2.2 j).trans ((h.2.1 a ha).2.2 j)⟩, fun a j q1 q2 => ?_, fun a q1 q2 q => ?_⟩
  · rcases Nat.lt_or_ge a z1 with w | w
    · exact ⟨((h'.2.1 a w).1 j).trans (h.2.2.1 a j q1 w).1, ((h'.2.1 a w).2.1 j).trans (h.2.2.1 a j q1 w).2⟩
    · exact h'.2.2.1 a j w q2
  · rcases Nat.lt_or_ge a z1 with w | w
    · have q3 : DG G1 a = true := by unfold DG at q ⊢; rw [h'.1 a (by omega)] at q; exact q
      have := h.2.2.2 a q1 w q3
      omega
    · exact h'.2.2.2 a w q2 q
theorem exN_R {z z' : Nat} {G G' : GG} {M N : MM} (h : exN z z' G G' M N) {a : Nat} (k : Nat) (v : Value) (ha : z ≤ a) : exN z z' G G' M (sR N a k v) := ⟨h.1, fun b hb => ⟨(h.2.1 b hb).1, (h.2.1 b hb).2.1, fun j => (up2_ne _ _ (by omega)).trans ((h.2.1 b hb).2.2 j)⟩, h.2.2.1, h.2.2.2⟩
/-- cells are as they were -/
def sam (G G' : GG) (R R' : Nat → Nat → Value) (a : Nat) : Prop := G' a = G a ∧ ∀ j, R' a j = R a j
theorem sam_N {z z' : Nat} {G G' : GG} {M M' : MM} (h : exN z z' G G' M M') {a : Nat} (ha : a < z) : sam G G' M.2.2 M'.2.2 a := ⟨h.1 a (Or.inl ha), (h.2.1 a ha).2.2⟩
theorem sam_R (G : GG) (M : MM) {b a : Nat} (k : Nat) (v : Value) (h : a ≠ b) : sam G G M.2.2 (sR M b k v).2.2 a := ⟨rfl, fun j => up2_ne _ _ (fun q => h q.1)⟩
section XX
variable {G G' : GG} {R R' : Nat → Nat → Value} {f n : Nat}
theorem isS_x (h : isS G R f) (e : ∀ a, f ≤ a → a < f + 2 → sam G G' R R' a) : isS G' R' f := ⟨(e f (by omega) (by omega)).1.trans h.1, ((e f (by omega) (by omega)).2 0).trans h.2.1, (e (f + 1) (by omega) (by omega)).1.trans h.2.2⟩
theorem arrS_x (h : arrS G R (DG G) f n) (e : ∀ a, f ≤ a → a < f + 1 + 2 * n → sam G G' R R' a) : arrS G' R' (DG G') f n := ⟨(e f (by omega) (by omega)).1.trans h.1, fun i hi => ⟨((e f (by omega) (by omega)).2 i).trans (h.2 i hi).1, DG_S (isS_x (h.2 i hi).2.1 (fun a _ _ => e a (by omega) (by omega)))⟩⟩
theorem flowW_x (h : flowW G R (DG G) f) (e : ∀ a, f ≤ a → a < f + 40 → sam G G' R R' a) : flowW G' R' (DG G') f := by
  obtain ⟨a1, a2, a3, a4, a5, a6, a7, a8, a9, a10, a11, a12, a13⟩ := h
  have e0 := e f (by omega) (by omega)
  exact ⟨e0.1.trans a1, (e0.2 0).trans a2, DG_S (isS_x a3.1 (fun a _ _ => e a (by omega) (by omega))), (e0.2 1).trans a4, arrS_x a5 (fun a _ _ => e a (by omega) (by omega)), (e0.2 2).trans a6, arrS_x a7 (fun a _ _ => e a (by omega) (by omega)), (e0.2 3).trans a8, arrS_x a9 (fun a _ _ => e a (by omega) (by omega)), (e0.2 4).trans a10, arrS_x a11 (fun a _ _ => e a (by omega) (by omega)), (e0.2 5).trans a12, arrS_x a13 (fun a _ _ => e a (by omega) (by omega))⟩
theorem invW_x (h : invW G R (DG G) f) (e : ∀ a, f ≤ a → a < f + 42 → sam G G' R R' a) : invW G' R' (DG G') f := by
  obtain ⟨a1, a2, a3, a4, a5⟩ := h
  have e0 := e f (by omega) (by omega)
  exact ⟨e0.1.trans a1, (e0.2 0).trans a2, flowW_x a3 (fun a _ _ => e a (by omega) (by omega)), (e0.2 1).trans a4, (e (f + 41) (by omega) (by omega)).1.trans a5⟩
theorem blameW_x (h : blameW G R (DG G) f) (e : ∀ a, f ≤ a → a < f + 31 → sam G G' R R' a) : blameW G' R' (DG G') f := by
  obtain ⟨a1, a2, a3, a4, a5, a6, a7, a8, a9, a10, a11⟩ := h
  have e0 := e f (by omega) (by omega)
  exact ⟨e0.1.trans a1, (e0.2 0).trans a2, DG_S (isS_x a3.1 (fun a _ _ => e a (by omega) (by omega))), (e0.2 1).trans a4, arrS_x a5 (fun a _ _ => e a (by omega) (by omega)), (e0.2 2).trans a6, arrS_x a7 (fun a _ _ => e a (by omega) (by omega)), (e0.2 3).trans a8, arrS_x a9 (fun a _ _ => e a (by omega) (by omega)), (e0.2 4).trans a10, arrS_x a11 (fun a _ _ => e a (by omega) (by omega))⟩
theorem anW_x (h : anW G R (DG G) f) (e : ∀ a, f ≤ a → a < f + 168 → sam G G' R R' a) : anW G' R' (DG G') f := by
  obtain ⟨a1, a2, a3, a4, a5, a6, a7, a8, a9, a10, a11, a12, a13, a14, a15⟩ := h
  have e0 := e f (by omega) (by omega)
  exact ⟨e0.1.trans a1, (e0.2 2).trans a2, DG_S (isS_x a3.1 (fun a _ _ => e a (by omega) (by omega))), (e0.2 3).trans a4, flowW_x a5 (fun a _ _ => e a (by omega) (by omega)), (e0.2 5).trans a6, invW_x a7 (fun a _ _ => e a (by omega) (by omega)), (e0.2 7).trans a8, invW_x a9 (fun a _ _ => e a (by omega) (by omega)), (e0.2 8).trans a10, (e (f + 127) (by omega) (by omega)).1.trans a11, (e0.2 9).trans a12, blameW_x a13 (fun a _ _ => e a (by omega) (by omega)), (e0.2 10).trans a14, arrS_x a15 (fun a _ _ => e a (by omega) (by omega))⟩
theorem suW_x (h : suW G R f) (e : ∀ a, f ≤ a → a < f + 2 → sam G G' R R' a) : suW G' R' f := ⟨(e f (by omega) (by omega)).1.trans h.1, ((e f (by omega) (by omega)).2 0).trans h.2.1, (e (f + 1) (by omega) (by omega)).1.trans h.2.2⟩
theorem rdF_x (h : rdF G R f) (e : ∀ a, f ≤ a → a < f + 2 → sam G G' R R' a) : rdF G' R' f := ⟨(e f (by omega) (by omega)).1.trans h.1, ((e f (by omega) (by omega)).2 4).trans h.2.1, (e (f + 1) (by omega) (by omega)).1.trans h.2.2⟩
theorem ruW_x (h : ruW G R f) (e : ∀ a, f ≤ a → a < f + 2 → sam G G' R R' a) : ruW G' R' f := ⟨(e f (by omega) (by omega)).1.trans h.1, ((e f (by omega) (by omega)).2 1).trans h.2.1, (e (f + 1) (by omega) (by omega)).1.trans h.2.2⟩
theorem kin_x {kd : KD} (h : G f = some kd) (e : sam G G' R R' f) : G' f = some kd := e.1.trans h
/-- a code, all of whose references to conditions lead to the first one -/
def code0 (G : GG) (R : Nat → Nat → Value) (c : Nat) : Prop := codeF G R c ∧ ∀ a j, refS a j → R (c + a) j = .ref (c + 5)
theorem code0_x (h : code0 G R f) (e : ∀ a, f ≤ a → a < f + 125 → sam G G' R R' a) : code0 G' R' f := by
  obtain ⟨⟨a1, a2, a3, a4, a5, a6, a7, a8, a9, a10, a11⟩, a12⟩ := h
  have e0 := e f (by omega) (by omega)
  refine ⟨⟨e0.1.trans a1, (e0.2 0).trans a2, (e (f + 1) (by omega) (by omega)).1.trans a3, fun i hi => ⟨((e (f + 1) (by omega) (by omega)).2 i).trans (a4 i hi).1, (e _ (by omega) (by omega)).1.trans (a4 i hi).2⟩, (e0.2 2).trans a5, (e (f + 2) (by omega) (by omega)).1.trans a6, fun i hi => ⟨((e (f + 2) (by omega) (by omega)).2 i).trans (a7 i hi).1, (e _ (by omega) (by omega)).1.trans (a7 i hi).2.1, ((e _ (by omega) (by omega)).2 3).trans (a7 i hi).2.2.1, isS_x (a7 i hi).2.2.2 (fun a _ _ => e a (by omega) (by omega))⟩, (e0.2 4).trans a8, (e (f + 3) (by omega) (by omega)).1.trans a9, (e0.2 5).trans a10, (e (f + 4) (by omega) (by omega)).1.trans a11⟩, fun a j hr => ((e (f + a) (by omega) (by unfold refS at hr; omega)).2 j).trans (a12 a j hr)⟩
end XX
/-- the same of longs alone: ints of new cells may be anything -/
def exW (z z' : Nat) (G G' : GG) (M M' : MM) : Prop := (∀ a, a < z ∨ z' ≤ a → G' a = G a) ∧ (∀ a, a < z → (∀ j, M'.1 a j = M.1 a j) ∧ (∀ j, M'.2.1 a j = M.2.1 a j) ∧ ∀ j, M'.2.2 a j = M.2.2 a j) ∧ (∀ a j, z ≤ a → a < z' → M'.2.1 a j = 0) ∧ ∀ a, z ≤ a → a < z' → DG G' a = true → a + 1 < z'
def exV (b z' : Nat) (G G' : GG) (M M' : MM) : Prop := (∀ a, a ≤ b ∨ z' ≤ a → G' a = G a) ∧ (∀ a, a < b → (∀ j, M'.1 a j = M.1 a j) ∧ (∀ j, M'.2.1 a j = M.2.1 a j) ∧ ∀ j, M'.2.2 a j = M.2.2 a j) ∧ (∀ j, M'.2.1 b j = M.2.1 b j) ∧ (∀ a j, b < a → a < z' → M'.2.1 a j = 0) ∧ ∀ a, b < a → a < z' → DG G' a = true → a + 1 < z'
theorem exN_W {z z' : Nat} {G G' : GG} {M M' : MM} (h : exN z z' G G' M M') : exW z z' G G' M M' := ⟨h.1, h.2.1, fun a j h1 h2 => (h.2.2.1 a j h1 h2).2, h.2.2.2⟩
theorem exB_V {b z' : Nat} {G G' : GG} {M M' : MM} (h : exB b z' G G' M M') : exV b z' G G' M M' := ⟨h.1, h.2.1, fun j => (h.2.2.1 j).2, fun a j h1 h2 => (h.2.2.2.1 a j h1 h2).2, h.2.2.2.2⟩
theorem exV_R {b z' : Nat} {G G' : GG} {M N : MM} (h : exV b z' G G' M N) (k : Nat) (v : Value) : exV b z' G G' M (sR N b k v) := ⟨h.1, fun a ha => ⟨(h.2.1 a ha).1, (h.2.1 a ha).2.1, fun j => (up2_ne _ _ (by omega)).trans ((h.2.1 a ha).2.2 j)⟩, h.2.2.1, h.2.2.2.1, h.2.2.2.2⟩
/-- ints of b and behind have changed -/
theorem exV_I {b z' : Nat} {G G' : GG} {M N N' : MM} (h : exV b z' G G' M N) (e : N'.2 = N.2) (e1 : ∀ a, a < b → ∀ j, N'.1 a j = N.1 a j) : exV b z' G G' M N' := ⟨h.1, fun a ha => ⟨fun j => (e1 a ha j).trans ((h.2.1 a ha).1 j), fun j => by rw [e]; exact (h.2.1 a ha).2.1 j, fun j => by rw [e]; exact (h.2.1 a ha).2.2 j⟩, fun j => by rw [e]; exact h.2.2.1 j, fun a j h1 h2 => by rw [e]; exact h.2.2.2.1 a j h1 h2, h.2.2.2.2⟩
theorem exV_N {b z z' : Nat} {G G1 G' : GG} {M N N' : MM} (h : exV b z G G1 M N) (h' : exW z z' G1 G' N N') (hb : b < z) (hz : z ≤ z') : exV b z' G G' M N' := by
  refine ⟨fun a ha => (h'.1 a (by omega)).trans (h.1 a (by omega)), fun a ha => ⟨fun j => ((h'.2.1 a (by omega)).1 j).trans ((h.2.1 a ha).1 j), fun j => ((h'.2.1 a (by omega)).2.1 j).trans ((h.2.1 a ha).2.1 j), fun j => ((h'.2.1 a (by omega)).2.2 j).trans ((h.2.1 a ha).2.2 j)⟩, fun j => ((h'.2.1 b hb).2.1 j).trans (h.2.2.1 j), fun a j h1 h2 => ?_, fun a h1 h2 q => ?_⟩
  · rcases Nat.lt_or_ge a z with w | w
    · exact ((h'.2.1 a w).2.1 j).trans (h.2.2.2.1 a j h1 w)
    · exact h'.2.2.1 a j w h2
  · rcases Nat.lt_or_ge a z with w | w
    · have q2 : DG G1 a = true := by unfold DG at q ⊢; rw [h'.1 a (by omega)] at q; exact q
      have := h.2.2.2.2 a h1 w q2
      omega
    · exact h'.2.2.2 a w h2 q
theorem exW_new {z z' ci : Nat} {G G' : GG} {M M' : MM} (h : exV z z' (gup G z (.inl ci)) G' (zr M z) M') (hz : z < z') (h9 : ci ≠ 9) : exW z z' G G' M M' := by
  have gz : G' z = some (.inl ci) := (h.1 z (by omega)).trans (if_pos rfl)
  refine ⟨fun a ha => (h.1 a (by omega)).trans (if_neg (by omega)), fun a ha => ?_, fun a j h1 h2 => ?_, fun a h1 h2 q => ?_⟩
  · obtain ⟨s1, s2, s3⟩ := zr_off M z a (by omega)
    exact ⟨fun j => ((h.2.1 a ha).1 j).trans (s1 j).symm, fun j => ((h.2.1 a ha).2.1 j).trans (s2 j).symm, fun j => ((h.2.1 a ha).2.2 j).trans (s3 j).symm⟩
  · by_cases e : a = z
    · rw [e]
      exact (h.2.2.1 j).trans (if_pos rfl)
    · exact h.2.2.2.1 a j (by omega) h2
  · by_cases e : a = z
    · rw [e, DG_no gz (fun w => by cases w; exact h9 rfl)] at q
      cases q
    · exact h.2.2.2.2 a (by omega) h2 q
theorem sam_W {z z' : Nat} {G G' : GG} {M M' : MM} (h : exW z z' G G' M M') {a : Nat} (ha : a < z) : sam G G' M.2.2 M'.2.2 a := ⟨h.1 a (Or.inl ha), (h.2.1 a ha).2.2⟩
section AR
variable {Γ : GT} {E : CT} {q : MD} {k n : Nat} {G : GG} {z : Nat} {M : MM} {pc : Nat} {L : List (Option Value)} {st : List Value}
theorem x_arr (h : Ok Γ E q) {at' : ArrayType} {ty : FieldType} {i : Int32} (m : Nat) (hty : newarray.typeOf at' = ty) (hw : KW (.arrayClass ty)) (hmem : ty ∈ aTys) (hobj : tk ty < 2) (hi : ¬ i < 0 ∧ i.toNatClampNeg = m) (hb : Nat.ble m 1000000 = true) (hk : k + 1 ≤ q.2.2.2.2.cells ∧ n + m ≤ q.2.2.2.2.slots) (d : decode q.2.1 pc = .ok (.newarray at', 2))
    (kk : ∀ (G' : GG) (M' : MM), exN z (z + 1) G G' M M' → G' z = some (.inr (ty, m)) → X Γ E (k + 1) (n + m) G' (z + 1) M' (pc + 2) L (.ref z :: st)) : X Γ E k n G z M pc L (.int i :: st) :=
  x_newa h m hty hw hmem hobj hi hb hk d (kk _ _ (exN_arr z G M (ty, m)) (if_pos rfl))
theorem x_aarr (h : Ok Γ E q) {idx : Nat} {C : String} {i : Int32} (m : Nat) (hcl : KW (.classLink q.1.cls idx C)) (hov : KW (.arrayOver (.object C))) (hmem : FieldType.object C ∈ aTys) (hi : ¬ i < 0 ∧ i.toNatClampNeg = m) (hb : Nat.ble m 1000000 = true) (hk : k + 1 ≤ q.2.2.2.2.cells ∧ n + m ≤ q.2.2.2.2.slots) (d : decode q.2.1 pc = .ok (.anewarray idx, 3))
    (kk : ∀ (G' : GG) (M' : MM), exN z (z + 1) G G' M M' → G' z = some (.inr (.object C, m)) → X Γ E (k + 1) (n + m) G' (z + 1) M' (pc + 3) L (.ref z :: st)) : X Γ E k n G z M pc L (.int i :: st) :=
  x_anew h m hcl hov hmem hi hb hk d (kk _ _ (exN_arr z G M (.object C, m)) (if_pos rfl))
end AR
