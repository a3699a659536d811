/-! ===== more guesses prove no less ===== -/
theorem foN_rel {α β : Type} {f : Nat → α → α} {g : Nat → β → β} {R : α → β → Prop} : ∀ n, (∀ i x y, i < n → R x y → R (f i x) (g i y)) → ∀ x y, R x y → R (foN f n x) (foN g n y)
  | 0, _, _, _, q => q
  | n + 1, h, x, y, q => h n _ _ (by omega) (foN_rel n (fun i x y hi => h i x y (by omega)) x y q)
/-- a set of guesses within another, loop by loop -/
def subG (a b : Nat → Nat) : Prop := ∀ l g, (a l).testBit g = true → (b l).testBit g = true
theorem ag_mono {V : GC} {a b : Nat} (h : ∀ g, a.testBit g = true → b.testBit g = true) {s : Nat} (q : agS V b s = true) : agS V a s = true := by
  unfold agS at q ⊢
  rw [allN_iff] at q ⊢
  intro g hg
  have := q g hg
  cases e : a.testBit g with
  | false => rfl
  | true => rw [h g e] at this; simpa using this
theorem lc_mono {Q : AP} (hO : okM Q) (h60 : nA Q ≤ 60) {V : GC} {t a b : Nat → Nat} (h : subG a b) : ∀ j u, (lcP Q V b t).1 j u = true → (lcP Q V a t).1 j u = true := by
  unfold lcP
  refine foN_rel (R := fun (x y : NS × NS) => ∀ j u, x.1 j u = true → y.1 j u = true) (nA Q) (fun k x y hk hxy => ?_) _ _ (fun j u q => q)
  unfold lcS
  refine foN_rel (R := fun (x y : NS × NS) => ∀ j u, x.1 j u = true → y.1 j u = true) 216 (fun s x y hs hxy => ?_) _ _ hxy
  intro j u q
  have gx := (go_spec (N := 13392) (Nat.le_refl _) hO h60 hk hs x).2 j u
  have gy := (go_spec (N := 13392) (Nat.le_refl _) hO h60 hk hs y).2 j u
  cases hz : (if kA Q k = 6 then agS V (b (mA Q k)) s else x.1 k s) with
  | false =>
    rw [lcA_no hz] at q
    cases hy : (if kA Q k = 6 then agS V (a (mA Q k)) s else y.1 k s) with
    | false => rw [lcA_no hy]; exact hxy j u q
    | true => rw [lcA_yes hy, gy]; exact Or.inl (hxy j u q)
  | true =>
    have hy : (if kA Q k = 6 then agS V (a (mA Q k)) s else y.1 k s) = true := by
      by_cases c : kA Q k = 6
      · rw [if_pos c] at hz ⊢
        exact ag_mono (h _) hz
      · rw [if_neg c] at hz ⊢
        exact hxy k s hz
    rw [lcA_yes hz, gx] at q
    rw [lcA_yes hy, gy]
    exact q.elim (fun q => Or.inl (hxy j u q)) Or.inr
theorem so_mono {V : GC} {C D : NS} {g k : Nat} (h : ∀ j u, C j u = true → D j u = true) (q : soA V D g k = true) : soA V C g k = true := by
  unfold soA at q ⊢
  rw [allN_iff] at q ⊢
  intro s hs
  have := q s hs
  cases e : C k s with
  | false => rfl
  | true => rw [h k s e] at this; simpa using this
theorem gu_mono {Q : AP} (hO : okM Q) (h60 : nA Q ≤ 60) {V : GC} {t a b : Nat → Nat} (ha : ∀ l, a l < 32) (hb : ∀ l, b l < 32) (h : subG a b) : subG (guH Q V t a) (guH Q V t b) := by
  intro l g
  unfold guH guP
  rw [guP_tb (y := (a, 0)) ha l g, guP_tb (y := (b, 0)) hb l g, Bool.and_eq_true, Bool.and_eq_true, allN_iff, allN_iff]
  rintro ⟨h1, h2⟩
  refine ⟨h l g h1, fun k hk => ?_⟩
  have := h2 k hk
  rw [Bool.or_eq_true] at this ⊢
  exact this.elim Or.inl (fun q => Or.inr (so_mono (fun j u => lc_mono hO h60 h j u) q))
theorem it_mono {Q : AP} (hO : okM Q) (h60 : nA Q ≤ 60) {V : GC} {t : Nat → Nat} {a b : Nat} (ha : a < 32) (hb : b < 32) (h : ∀ g, a.testBit g = true → b.testBit g = true) : ∀ r, subG (itN (guH Q V t) r (fun _ => a)) (itN (guH Q V t) r (fun _ => b))
  | 0 => fun _ g => h g
  | r + 1 => gu_mono hO h60 (it_lt ha r) (it_lt hb r) (it_mono hO h60 ha hb h r)
theorem prv_mono {Q : AP} (hO : okM Q) (h60 : nA Q ≤ 60) {V : GC} {kn t : Nat → Nat} {a b : Nat} (ha : a < 32) (hb : b < 32) (h : ∀ g, a.testBit g = true → b.testBit g = true) {c : Nat} (q : prvS Q V kn t a c = true) : prvS Q V kn t b c = true := by
  unfold prvS fneS at q ⊢
  rw [Bool.not_eq_true', anyS_not] at q ⊢
  intro s hs
  have := q s hs
  cases e : (lcP Q V (HS Q V t b) t).1 (kn c) s with
  | false => rfl
  | true =>
    have e2 := lc_mono hO h60 (V := V) (t := t) (it_mono hO h60 ha hb h 15) (kn c) s e
    have e3 : (lcP Q V (HS Q V t a) t).1 (kn c) s = true := e2
    rw [e3] at this
    exact this
theorem pv_mono {Q : AP} (hO : okM Q) (h60 : nA Q ≤ 60) {V : GC} {kn t : Nat → Nat} {a b nk : Nat} (ha : a < 32) (hb : b < 32) (h : ∀ g, a.testBit g = true → b.testBit g = true) : fb_ct (fun i => (enN (prvS Q V kn t a) 0 nk).testBit i) 5 ≤ fb_ct (fun i => (enN (prvS Q V kn t b) 0 nk).testBit i) 5 := by
  refine ct_mono 5 (fun i _ q => ?_)
  rw [enN_bit, Bool.and_eq_true] at q ⊢
  exact ⟨q.1, prv_mono hO h60 ha hb h q.2⟩
