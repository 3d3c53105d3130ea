/-! makePrimitive, becomeNumber, becomeLine, becomeQuotient -/
section
variable {K : Cx} {I : TI} {L : TL} {A : TA}
/-- a top that is one -/
def tk (I : TI) (r : Nat) : Prop := ∃ d, d ≤ 13 ∧ I r 1 = tpI d
theorem St.tk {r d : Nat} (h : St I L r d) : tk I r := ⟨d, h.2.1, h.1⟩
theorem tk.ch {S : Nat → Prop} {I' : TI} {L' : TL} {r : Nat} (h : tk I r) (hc : ChR S I I' L L') (hr : ¬ S r) : tk I' r := by
  obtain ⟨d, h1, h2⟩ := h
  exact ⟨d, h1, by rw [hc.i hr]; exact h2⟩
theorem RowIs.tk {r : Nat} {f : Nat → Int64} (h : RowIs I L r f) : tk I r := ⟨_, ln_le f 13, h.2⟩
theorem sgd_dvd {f : PP} {d : Nat} (h : dl f d) (k : Nat) : sgd f d ∣ f k := by
  by_cases q : k < d
  · have := gd_dvd f d k q
    unfold sgd
    split
    · exact Int.neg_dvd.mpr this
    · exact this
  · rw [h k (by omega)]; exact Int.dvd_zero _
theorem s_makePrimitive {r d : Nat} (h : isRow K r) (st : St I L r d) (hb : ∀ k, (pl L r k).natAbs < 562949953421312) : ConV K yX4_makePrimitive wsX4_makePrimitive 3 93 I L A [.ref r] (fun I' L' A' => (∀ k, pl L r k = (if sgd (pl L r) d = 0 then 1 else sgd (pl L r) d) * pl L' r k) ∧ St I' L' r d ∧ ChR (· = r) I I' L L' ∧ A' = A) := by
  have hd := st.2.1
  apply w_X4_makePrimitive
  unfold wp_X4_makePrimitive
  refine ⟨h.1, _, s_signedMeasure h st hb, ?_⟩
  rintro v I1 L1 A1 ⟨hv, rfl, rfl, hA⟩
  refine ⟨fun z => ⟨fun k => ?_, st, ChR.refl _ _ _, hA⟩, fun z => ?_⟩
  · rw [j0, hv] at z
    rw [if_pos z]; omega
  have z0 : sgd (pl L1 r) d ≠ 0 := fun t => z (by rw [j0, hv]; exact t)
  rw [if_neg z0]
  unfold wp_X4_makePrimitive_14
  refine ⟨fun μ I' L' A' x n => ∃ i : Nat, i + μ = d ∧ x = v ∧ n = nI i ∧ I' = I1 ∧ (∀ k, k < i → (L' (r + 1) k).toInt = (pl L1 r k).tdiv (sgd (pl L1 r) d)) ∧ (∀ k, i ≤ k → L' (r + 1) k = L1 (r + 1) k) ∧ (∀ x, x ≠ r + 1 → L' x = L1 x) ∧ A' = A, d, ⟨0, by omega, rfl, rfl, rfl, fun k hk => absurd hk (Nat.not_lt_zero _), fun _ _ => rfl, fun _ _ => rfl, hA⟩, ?_⟩
  rintro μ C hC I' L' A' _ _ ⟨i, hi, rfl, rfl, rfl, h1, h2, h3, hA'⟩
  refine ⟨h.1, fun q => ?_, fun q => ⟨?_, z, ?_, fun L5 e5 v6 e6 => ?_⟩⟩
  · rw [st.1, tp_lt (by omega) (by omega)] at q
    have : i = d := by omega
    subst this
    refine ⟨fun k => ?_, ⟨st.1, hd, fun k hk1 hk2 => by rw [h2 k hk1]; exact st.2.2 k hk1 hk2⟩, ⟨fun _ _ => rfl, fun x hx => h3 x (hx r rfl)⟩, hA'⟩
    by_cases y : k < i
    · rw [pl_lt (L := L') (by omega), h1 k y]
      exact (Int.mul_tdiv_cancel' (sgd_dvd st.dl k)).symm
    · rw [st.dl k (by omega)]
      have : pl L' r k = 0 := by
        by_cases y2 : k < 13
        · rw [pl_lt y2, h2 k (by omega), st.2.2 k (by omega) y2]; rfl
        · exact if_neg y2
      rw [this]; simp
  · rw [st.1, tp_lt (by omega) (by omega)] at q
    exact h.ok (by omega)
  · rw [st.1, tp_lt (by omega) (by omega)] at q
    exact h.ok (by omega)
  · rw [st.1, tp_lt (by omega) (by omega)] at q
    rw [ixn (by omega), h2 i (Nat.le_refl i)] at e5
    refine hC (μ - 1) _ _ _ _ _ (by omega) ⟨i + 1, by omega, rfl, by rw [e6, sI], rfl, fun k hk => ?_, fun k hk => ?_, fun x hx => ?_, hA'⟩
    · rw [e5]
      by_cases y : k = i
      · subst y
        have b := hb k
        rw [pl_lt (by omega)] at b
        rw [u2_self, jdiv (by omega), hv, pl_lt (by omega)]
      · rw [u2_ne _ _ (fun t => y t.2)]
        exact h1 k (by omega)
    · rw [e5, u2_ne _ _ (fun t => by omega)]
      exact h2 k (by omega)
    · rw [e5, u2_off _ _ hx]
      exact h3 x hx
theorem ix0 : ix 0 = 0 := by decide
theorem ix1 : ix 1 = 1 := by decide
theorem isRow.ok0 {r : Nat} (h : isRow K r) : aok (cxS K) (r + 1) 1 0 := h.ok' (i := 0) (by decide) (by omega)
theorem isRow.ok1 {r : Nat} (h : isRow K r) : aok (cxS K) (r + 1) 1 1 := h.ok' (i := 1) (by decide) (by omega)
theorem ln_k (c : Int64) : ∀ n, ln (fun k => if k = 0 then c else 0) (n + 1) = if c = 0 then 0 else 1
  | 0 => by simp [ln]
  | n + 1 => by
    rw [ln, if_pos (if_neg (by omega)), ln_k c n]
theorem s_becomeNumber {r : Nat} {c : Int64} (h : isRow K r) : ConV K yX4_becomeNumber wsX4_becomeNumber 1 21 I L A [.ref r, .long c] (fun I' L' A' => RowIs I' L' r (fun k => if k = 0 then c else 0) ∧ ChR (· = r) I I' L L' ∧ A' = A) := by
  apply w_X4_becomeNumber
  unfold wp_X4_becomeNumber
  refine ⟨h.1, _, s_clear h, ?_⟩
  rintro I1 L1 A1 ⟨hz, hc, hA⟩
  refine ⟨h.ok0, fun L8 e8 => ⟨fun z I10 e10 => ?_, fun z I9 e9 => ?_⟩⟩
  all_goals rw [ix0] at e8
  · refine ⟨⟨fun k hk => ?_, by rw [e10, u2_self, ln_k, if_pos z]; decide⟩, ⟨fun x hx => by rw [e10, u2_off _ _ hx]; exact hc.1 x hx, fun x hx => by rw [e8, u2_off _ _ (hx r rfl)]; exact hc.2 x hx⟩, hA⟩
    rw [e8]
    by_cases y : k = 0
    · rw [y, u2_self]; simp
    · rw [u2_ne _ _ (fun t => y t.2), hz.1 k hk]; simp [y]
  · refine ⟨⟨fun k hk => ?_, by rw [e9, u2_self, ln_k, if_neg z]; decide⟩, ⟨fun x hx => by rw [e9, u2_off _ _ hx]; exact hc.1 x hx, fun x hx => by rw [e8, u2_off _ _ (hx r rfl)]; exact hc.2 x hx⟩, hA⟩
    rw [e8]
    by_cases y : k = 0
    · rw [y, u2_self]; simp
    · rw [u2_ne _ _ (fun t => y t.2), hz.1 k hk]; simp [y]
theorem ln_l (c : Int64) : ∀ n, ln (fun k => if k = 0 then c else if k = 1 then 1 else 0) (n + 2) = 2
  | 0 => by simp [ln]
  | n + 1 => by
    rw [show n + 1 + 2 = (n + 2) + 1 by omega, ln, if_pos (by rw [if_neg (by omega), if_neg (by omega)]), ln_l c n]
theorem s_becomeLine {r : Nat} {c : Int64} (h : isRow K r) : ConV K yX4_becomeLine wsX4_becomeLine 1 21 I L A [.ref r, .long c] (fun I' L' A' => RowIs I' L' r (fun k => if k = 0 then c else if k = 1 then 1 else 0) ∧ ChR (· = r) I I' L L' ∧ A' = A) := by
  apply w_X4_becomeLine
  unfold wp_X4_becomeLine
  refine ⟨h.1, _, s_clear h, ?_⟩
  rintro I1 L1 A1 ⟨hz, hc, hA⟩
  refine ⟨h.ok0, fun L8 e8 => ⟨h.ok1, fun L10 e10 I11 e11 => ?_⟩⟩
  rw [ix0] at e8
  rw [ix1] at e10
  refine ⟨⟨fun k hk => ?_, by rw [e11, u2_self, ln_l]; decide⟩, ⟨fun x hx => by rw [e11, u2_off _ _ hx]; exact hc.1 x hx, fun x hx => by rw [e10, u2_off _ _ (hx r rfl), e8, u2_off _ _ (hx r rfl)]; exact hc.2 x hx⟩, hA⟩
  rw [e10]
  by_cases y1 : k = 1
  · rw [y1, u2_self]; simp
  · rw [u2_ne _ _ (fun t => y1 t.2), e8]
    by_cases y : k = 0
    · rw [y, u2_self]; simp
    · rw [u2_ne _ _ (fun t => y t.2), hz.1 k hk]; simp [y, y1]
end
