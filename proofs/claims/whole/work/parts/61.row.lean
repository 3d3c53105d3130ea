/-! ROWS: what each method of Row does to the store -/
section
variable {K : Cx} {I : TI} {L : TL} {A : TA}
/-- only the rows of S are written -/
def ChR (S : Nat → Prop) (I I' : TI) (L L' : TL) : Prop := (∀ x, ¬ S x → I' x = I x) ∧ ∀ x, (∀ r, S r → x ≠ r + 1) → L' x = L x
theorem ChR.refl (S : Nat → Prop) (I : TI) (L : TL) : ChR S I I L L := ⟨fun _ _ => rfl, fun _ _ => rfl⟩
theorem ChR.trans {S : Nat → Prop} {I I' I'' : TI} {L L' L'' : TL} (h : ChR S I I' L L') (h' : ChR S I' I'' L' L'') : ChR S I I'' L L'' :=
  ⟨fun x hx => (h'.1 x hx).trans (h.1 x hx), fun x hx => (h'.2 x hx).trans (h.2 x hx)⟩
theorem ChR.mono {S T : Nat → Prop} {I I' : TI} {L L' : TL} (h : ChR S I I' L L') (hs : ∀ x, S x → T x) : ChR T I I' L L' :=
  ⟨fun x hx => h.1 x (fun q => hx (hs x q)), fun x hx => h.2 x (fun r q => hx r (hs r q))⟩
theorem ChR.i {S : Nat → Prop} {I I' : TI} {L L' : TL} (h : ChR S I I' L L') {u : Nat} (hu : ¬ S u) : I' u = I u := h.1 u hu
theorem ChR.l {S : Nat → Prop} {I I' : TI} {L L' : TL} (h : ChR S I I' L L') {u : Nat} (hu : ¬ S u) : L' (u + 1) = L (u + 1) := h.2 _ (fun r q e => hu ((show u = r by omega) ▸ q))
/-- row r holds f, and its top says so -/
def RowIs (I : TI) (L : TL) (r : Nat) (f : Nat → Int64) : Prop := (∀ k, k < 13 → L (r + 1) k = f k) ∧ I r 1 = tpI (ln f 13)
theorem RowIs.len {I : TI} {L : TL} {r : Nat} {f : Nat → Int64} (h : RowIs I L r f) : ln (L (r + 1)) 13 = ln f 13 := ln_congr 13 (fun k hk => by rw [h.1 k hk])
theorem RowIs.keep {I I' : TI} {L L' : TL} {r : Nat} {f : Nat → Int64} (h : RowIs I L r f) (hi : I' r = I r) (hl : L' (r + 1) = L (r + 1)) : RowIs I' L' r f := ⟨fun k hk => by rw [hl]; exact h.1 k hk, by rw [hi]; exact h.2⟩
theorem RowIs.ch {S : Nat → Prop} {I I' : TI} {L L' : TL} {r : Nat} {f : Nat → Int64} (h : RowIs I L r f) (hc : ChR S I I' L L') (hr : ¬ S r) : RowIs I' L' r f := h.keep (hc.i hr) (hc.l hr)
theorem li13 : (13 : Int32).toInt = 13 := by decide
theorem li0 : (0 : Int32).toInt = 0 := by decide
theorem li1 : (1 : Int32).toInt = 1 := by decide
theorem ge13 {i : Nat} (h : i ≤ 13) : (13 : Int32) ≤ nI i ↔ i = 13 := by rw [ile, tI (by omega), li13]; omega
theorem s_settle {r : Nat} (h : isRow K r) : ConV K yX4_settle wsX4_settle 0 0 I L A [.ref r] (fun I' L' A' => I' = u2 I r 1 (tpI (ln (L (r + 1)) 13)) ∧ L' = L ∧ A' = A) := by
  apply w_X4_settle
  unfold wp_X4_settle wp_X4_settle_7
  refine ⟨h.1, fun I7 e7 => ⟨fun μ I' L' A' x => ∃ i, i + μ = 13 ∧ x = nI i ∧ I' = u2 I r 1 (tpI (ln (L (r + 1)) i)) ∧ L' = L ∧ A' = A, 13, ⟨0, rfl, rfl, e7, rfl, rfl⟩, ?_⟩⟩
  rintro μ C hC _ _ _ _ ⟨i, hi, rfl, rfl, rfl, rfl⟩
  refine ⟨fun q => ?_, fun q => ?_⟩
  · rw [(ge13 (by omega)).mp q]
    exact ⟨rfl, rfl, rfl⟩
  · have hi13 : i < 13 := by
      rcases Nat.lt_or_ge i 13 with z | z
      · exact z
      · exact absurd ((ge13 (by omega)).mpr (by omega)) q
    refine ⟨h.1, h.ok hi13, fun e v hv => ?_, fun e I4 e4 v hv => ?_⟩
    · refine hC (μ - 1) _ _ _ _ (by omega) ⟨i + 1, by omega, by rw [hv, sI], ?_, rfl, rfl⟩
      rw [ixn (by omega)] at e
      rw [ln, if_pos e]
    · refine hC (μ - 1) _ _ _ _ (by omega) ⟨i + 1, by omega, by rw [hv, sI], ?_, rfl, rfl⟩
      rw [ixn (by omega)] at e
      rw [e4, ln, if_neg e, tp_s]
      funext x y
      by_cases z : x = r ∧ y = 1
      · rw [u2, if_pos z, u2, if_pos z]
      · rw [u2_ne _ _ z, u2_ne _ _ z, u2_ne _ _ z]
theorem ch_u2 {r : Nat} (v : Int32) : ChR (· = r) I (u2 I r 1 v) L L := ⟨fun x hx => u2_off _ _ hx, fun _ _ => rfl⟩
theorem s_clear {r : Nat} (h : isRow K r) : ConV K yX4_clear wsX4_clear 0 0 I L A [.ref r] (fun I' L' A' => RowIs I' L' r (fun _ => 0) ∧ ChR (· = r) I I' L L' ∧ A' = A) := by
  apply w_X4_clear
  unfold wp_X4_clear wp_X4_clear_2
  refine ⟨fun μ I' L' A' x => ∃ i, i + μ = 13 ∧ x = nI i ∧ I' = I ∧ (∀ k, k < i → L' (r + 1) k = 0) ∧ (∀ x, x ≠ r + 1 → L' x = L x) ∧ A' = A, 13, ⟨0, rfl, rfl, rfl, fun k hk => absurd hk (Nat.not_lt_zero _), fun _ _ => rfl, rfl⟩, ?_⟩
  rintro μ C hC I' L' _ _ ⟨i, hi, rfl, rfl, h1, h2, rfl⟩
  refine ⟨fun q => ⟨h.1, fun I2 e2 => ?_⟩, fun q => ?_⟩
  · have e := (ge13 (by omega)).mp q
    subst e
    refine ⟨⟨fun k hk => h1 k hk, ?_⟩, ⟨fun x hx => by rw [e2]; exact u2_off _ _ hx, fun x hx => h2 x (hx r rfl)⟩, rfl⟩
    rw [e2, u2_self]
    decide
  · have hi13 : i < 13 := by
      rcases Nat.lt_or_ge i 13 with z | z
      · exact z
      · exact absurd ((ge13 (by omega)).mpr (by omega)) q
    refine ⟨h.1, h.ok hi13, fun L5 e5 v hv => ?_⟩
    refine hC (μ - 1) _ _ _ _ (by omega) ⟨i + 1, by omega, by rw [hv, sI], rfl, fun k hk => ?_, fun x hx => ?_, rfl⟩
    · rw [e5, ixn (by omega)]
      by_cases z : k = i
      · rw [z, u2_self]
      · rw [u2_ne _ _ (fun q => z q.2)]
        exact h1 k (by omega)
    · rw [e5, u2_off _ _ hx]
      exact h2 x hx
theorem s_become {r u : Nat} (h : isRow K r) (h' : isRow K u) : ConV K yX4_become wsX4_become 1 40 I L A [.ref r, .ref u] (fun I' L' A' => I' = u2 I r 1 (I u 1) ∧ L' = us L (r + 1) (L (u + 1)) ∧ A' = A) := by
  apply w_X4_become
  unfold wp_X4_become
  exact ⟨h'.1, h.1, h'.2, h.2, fun L5 e5 I6 e6 => ⟨e6, e5, rfl⟩⟩
theorem become_ch {r u : Nat} : ChR (· = r) I (u2 I r 1 (I u 1)) L (us L (r + 1) (L (u + 1))) := ⟨fun x hx => u2_off _ _ hx, fun x hx => us_ne _ _ (hx r rfl)⟩
theorem become_is {r u : Nat} {f : Nat → Int64} (h : RowIs I L u f) : RowIs (u2 I r 1 (I u 1)) (us L (r + 1) (L (u + 1))) r f := ⟨fun k hk => by rw [us_self]; exact h.1 k hk, by rw [u2_self]; exact h.2⟩
/-- at(k) -/
theorem s_at {r : Nat} {x : Int32} (h : isRow K r) : ConL K yX4_at wsX4_at 0 0 I L A [.ref r, .int x] (fun v I' L' A' => ((∀ k : Nat, x.toInt = k → k < 13 → v = L (r + 1) k) ∧ (x.toInt < 0 ∨ 13 ≤ x.toInt → v = 0)) ∧ I' = I ∧ L' = L ∧ A' = A) := by
  apply w_X4_at
  unfold wp_X4_at
  refine ⟨fun q => ?_, fun q => ⟨fun q2 => ?_, fun q2 => ?_⟩⟩
  · rw [ilt, li0] at q
    exact ⟨⟨fun k hk => by omega, fun _ => rfl⟩, rfl, rfl, rfl⟩
  · rw [ilt, li13] at q2
    rw [ilt, li0] at q
    obtain ⟨k, hk⟩ : ∃ k : Nat, x.toInt = k := ⟨x.toInt.toNat, by omega⟩
    refine ⟨h.1, h.ok' hk (by omega), ⟨fun k' hk' _ => ?_, fun z => by omega⟩, rfl, rfl, rfl⟩
    rw [ix_of hk']
  · rw [ilt, li13] at q2
    rw [ilt, li0] at q
    exact ⟨⟨fun k hk _ => by omega, fun _ => rfl⟩, rfl, rfl, rfl⟩
/-- lead(): the place below the length -/
theorem s_lead {r d : Nat} (h : isRow K r) (ht : I r 1 = tpI d) (hd : d ≤ 13) : ConL K yX4_lead wsX4_lead 1 21 I L A [.ref r] (fun v I' L' A' => v = (if d = 0 then 0 else L (r + 1) (d - 1)) ∧ I' = I ∧ L' = L ∧ A' = A) := by
  apply w_X4_lead
  unfold wp_X4_lead
  refine ⟨h.1, _, s_at h, ?_⟩
  rintro v I' L' A' ⟨⟨h1, h2⟩, rfl, rfl, rfl⟩
  refine ⟨?_, rfl, rfl, rfl⟩
  rw [ht, tm1 (by omega)] at h1 h2
  by_cases z : d = 0
  · rw [if_pos z]
    exact h2 (by omega)
  · rw [if_neg z]
    exact h1 (d - 1) (by omega) (by omega)
/-- isWithin -/
theorem s_isWithin {r d : Nat} {x : Int64} (h : isRow K r) (ht : I r 1 = tpI d) (hd : d ≤ 13) (hx : 0 ≤ x.toInt) : ConI K yX4_isWithin wsX4_isWithin 0 0 I L A [.ref r, .long x] (fun v I' L' A' => (v = 1 ∧ (∀ k, k < d → -x.toInt ≤ (L (r + 1) k).toInt ∧ (L (r + 1) k).toInt ≤ x.toInt) ∨ v = 0 ∧ ∃ k, k < d ∧ ¬ (-x.toInt ≤ (L (r + 1) k).toInt ∧ (L (r + 1) k).toInt ≤ x.toInt)) ∧ I' = I ∧ L' = L ∧ A' = A) := by
  have hxm := Int64.toInt_lt x
  have hneg : (-x).toInt = -x.toInt := jneg (by omega)
  apply w_X4_isWithin
  unfold wp_X4_isWithin wp_X4_isWithin_2
  refine ⟨fun μ I' L' A' y => ∃ i, i + μ = d ∧ y = nI i ∧ I' = I ∧ L' = L ∧ A' = A ∧ ∀ k, k < i → -x.toInt ≤ (L (r + 1) k).toInt ∧ (L (r + 1) k).toInt ≤ x.toInt, d, ⟨0, by omega, rfl, rfl, rfl, rfl, fun k hk => absurd hk (Nat.not_lt_zero _)⟩, ?_⟩
  rintro μ C hC _ _ _ _ ⟨i, hi, rfl, rfl, rfl, rfl, hk⟩
  refine ⟨h.1, fun q => ?_, fun q => ?_⟩
  · rw [ht, tp_lt (by omega) (by omega)] at q
    have : i = d := by omega
    subst this
    exact ⟨Or.inl ⟨rfl, hk⟩, rfl, rfl, rfl⟩
  · rw [ht, tp_lt (by omega) (by omega)] at q
    refine ⟨h.ok (by omega), fun q2 => ?_, fun q2 => ⟨h.ok (by omega), fun q3 v hv => ?_, fun q3 => ?_⟩⟩
    · rw [ixn (by omega), jlt] at q2
      exact ⟨Or.inr ⟨rfl, i, by omega, by omega⟩, rfl, rfl, rfl⟩
    · rw [ixn (by omega), jlt] at q2
      rw [ixn (by omega), jle, hneg] at q3
      refine hC (μ - 1) _ _ _ _ (by omega) ⟨i + 1, by omega, by rw [hv, sI], rfl, rfl, rfl, fun k hki => ?_⟩
      by_cases z : k = i
      · rw [z]; omega
      · exact hk k (by omega)
    · rw [ixn (by omega), jle, hneg] at q3
      exact ⟨Or.inr ⟨rfl, i, by omega, by omega⟩, rfl, rfl, rfl⟩
/-- becomeSum: this row may be one of the two -/
theorem s_becomeSum {r u w : Nat} {p q : Int64} (h : isRow K r) (hu : isRow K u) (hw : isRow K w) : ConV K yX4_becomeSum wsX4_becomeSum 1 21 I L A [.ref r, .ref u, .long p, .ref w, .long q] (fun I' L' A' => RowIs I' L' r (fun k => p * L (u + 1) k + q * L (w + 1) k) ∧ ChR (· = r) I I' L L' ∧ A' = A) := by
  apply w_X4_becomeSum
  unfold wp_X4_becomeSum wp_X4_becomeSum_3
  refine ⟨fun μ I' L' A' x => ∃ i, i + μ = 13 ∧ x = nI i ∧ I' = I ∧ (∀ k, k < i → L' (r + 1) k = p * L (u + 1) k + q * L (w + 1) k) ∧ (∀ k, i ≤ k → L' (r + 1) k = L (r + 1) k) ∧ (∀ x, x ≠ r + 1 → L' x = L x) ∧ A' = A, 13, ⟨0, rfl, rfl, rfl, fun k hk => absurd hk (Nat.not_lt_zero _), fun _ _ => rfl, fun _ _ => rfl, rfl⟩, ?_⟩
  rintro μ C hC I' L' _ _ ⟨i, hi, rfl, rfl, h1, h2, h3, rfl⟩
  refine ⟨fun z => ⟨h.1, _, s_settle h, ?_⟩, fun z => ?_⟩
  · have e := (ge13 (by omega)).mp z
    subst e
    rintro I4 L5 A6 ⟨rfl, rfl, rfl⟩
    refine ⟨⟨fun k hk => h1 k hk, ?_⟩, ⟨fun x hx => u2_off _ _ hx, fun x hx => h3 x (hx r rfl)⟩, rfl⟩
    rw [u2_self]
    exact congrArg tpI (ln_congr 13 (fun k hk => by rw [h1 k hk]))
  · have hi13 : i < 13 := by
      rcases Nat.lt_or_ge i 13 with y | y
      · exact y
      · exact absurd ((ge13 (by omega)).mpr (by omega)) z
    have same : ∀ a, L' (a + 1) i = L (a + 1) i := fun a => by
      by_cases y : a + 1 = r + 1
      · rw [y]; exact h2 i (Nat.le_refl i)
      · rw [h3 _ y]
    refine ⟨h.1, hu.1, hu.ok hi13, hw.1, hw.ok hi13, h.ok hi13, fun L5 e5 v hv => ?_⟩
    rw [ixn (by omega), same, same] at e5
    refine hC (μ - 1) _ _ _ _ (by omega) ⟨i + 1, by omega, by rw [hv, sI], rfl, fun k hk => ?_, fun k hk => ?_, fun x hx => ?_, rfl⟩
    · rw [e5]
      by_cases y : k = i
      · rw [y, u2_self]
      · rw [u2_ne _ _ (fun t => y t.2)]
        exact h1 k (by omega)
    · rw [e5, u2_ne _ _ (fun t => by omega)]
      exact h2 k (by omega)
    · rw [e5, u2_off _ _ hx]
      exact h3 x hx
end
