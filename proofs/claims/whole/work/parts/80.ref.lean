/-! THE REFERENCE: rows of eight -/
section
variable {K : Cx} {I : TI} {L : TL} {A : TA}
abbrev isX7 (K : Cx) (m : Nat) : Prop := cxS K m = shX7 m ∧ cxS K (m + 1) = .inr (1, 240) ∧ cxS K (m + 2) = .inr (0, 8) ∧ cxS K (m + 3) = .inr (0, 8) ∧ cxS K (m + 4) = .inr (1, 56) ∧ cxS K (m + 5) = .inr (0, 7) ∧ cxS K (m + 6) = .inr (0, 7) ∧ cxS K (m + 7) = .inr (0, 600) ∧ cxS K (m + 8) = .inr (0, 160)
/-- row r of the reference -/
def rp (L : TL) (m r : Nat) : PP := fun k => if k < 8 then (L (m + 1) (8 * r + k)).toInt else 0
theorem rp_lt {L : TL} {m r k : Nat} (h : k < 8) : rp L m r k = (L (m + 1) (8 * r + k)).toInt := if_pos h
theorem rp_dl (L : TL) (m r : Nat) : dl (rp L m r) 8 := fun k hk => if_neg (by omega)
/-- only rows of S are written -/
def RU (m : Nat) (S : Nat → Prop) (L L' : TL) : Prop := (∀ y, y ≠ m + 1 → L' y = L y) ∧ ∀ r k, ¬ S r → k < 8 → L' (m + 1) (8 * r + k) = L (m + 1) (8 * r + k)
theorem RU.refl (m : Nat) (S : Nat → Prop) (L : TL) : RU m S L L := ⟨fun _ _ => rfl, fun _ _ _ _ => rfl⟩
theorem RU.trans {m : Nat} {S : Nat → Prop} {L' L'' : TL} (h : RU m S L L') (h' : RU m S L' L'') : RU m S L L'' := ⟨fun y hy => (h'.1 y hy).trans (h.1 y hy), fun r k hr hk => (h'.2 r k hr hk).trans (h.2 r k hr hk)⟩
theorem RU.mono {m : Nat} {S T : Nat → Prop} {L' : TL} (h : RU m S L L') (hs : ∀ r, S r → T r) : RU m T L L' := ⟨h.1, fun r k hr hk => h.2 r k (fun q => hr (hs r q)) hk⟩
theorem RU.same {m r : Nat} {S : Nat → Prop} {L' : TL} (h : RU m S L L') (hr : ¬ S r) : rp L' m r = rp L m r := funext fun k => by
  by_cases q : k < 8
  · rw [rp_lt q, rp_lt q, h.2 r k hr q]
  · rw [rp, if_neg q, rp, if_neg q]
/-- a place of a row -/
theorem rix {r k : Nat} (hr : r < 30) (hk : k < 8) {x y : Int32} (hx : x = nI r) (hy : y.toInt = k) : ((8 : Int32) * x + y).toInt = ((8 * r + k : Nat) : Int) := by
  have h1 : ((8 : Int32) * x).toInt = ((8 * r : Nat) : Int) := by
    rw [Int32.toInt_mul, hx, tI (by omega), li8]
    exact (Int.bmod_eq_of_le (by omega) (by omega)).trans (by omega)
  rw [iadd (by rw [h1, hy]; omega) (by rw [h1, hy]; omega), h1, hy]; omega
theorem rok {m r k : Nat} (hm : isX7 K m) (hr : r < 30) (hk : k < 8) {x : Int32} (hx : x.toInt = ((8 * r + k : Nat) : Int)) : aok (cxS K) (m + 1) 1 x := ⟨240, hm.2.1, inOf hx (by omega)⟩
theorem li7 : (7 : Int32).toInt = 7 := by decide
theorem m_degreeOf {m r : Nat} (hm : isX7 K m) (hr : r < 30) : ConI K yX7_degreeOf wsX7_degreeOf 0 0 I L A [.ref m, .int (nI r)] (fun v I' L' A' => v = tpI (lnP (rp L m r) 8) ∧ I' = I ∧ L' = L ∧ A' = A) := by
  apply w_X7_degreeOf
  unfold wp_X7_degreeOf wp_X7_degreeOf_3
  refine ⟨fun μ I' L' A' x => μ ≤ 8 ∧ x.toInt = (μ : Int) - 1 ∧ lnP (rp L m r) μ = lnP (rp L m r) 8 ∧ I' = I ∧ L' = L ∧ A' = A, 8, ⟨by omega, by decide, rfl, rfl, rfl, rfl⟩, ?_⟩
  rintro μ C hC I' L' A' x ⟨hμ, hx, hl, rfl, rfl, rfl⟩
  refine ⟨fun q => ?_, fun q => ?_⟩
  · rw [ilt, li0] at q
    have : μ = 0 := by omega
    subst this
    refine ⟨iext ?_, rfl, rfl, rfl⟩
    rw [hx, ← hl]
    show _ = (tpI 0).toInt
    decide
  · rw [ilt, li0] at q
    obtain ⟨k, rfl⟩ : ∃ k, μ = k + 1 := ⟨μ - 1, by omega⟩
    have hxk : x.toInt = (k : Int) := by omega
    have hix := rix hr (show k < 8 by omega) rfl hxk
    rw [lnP] at hl
    refine ⟨hm.1, rok hm hr (by omega) hix, fun z v hv => ?_, fun z => ?_⟩
    · rw [ix_of hix, j0, ← rp_lt (show k < 8 by omega)] at z
      rw [if_pos z] at hl
      refine hC k _ _ _ _ (by omega) ⟨by omega, ?_, hl, rfl, rfl, rfl⟩
      rw [hv, iadd (by rw [hxk, lim1]; omega) (by rw [hxk, lim1]; omega), hxk, lim1]; omega
    · rw [ix_of hix, j0, ← rp_lt (show k < 8 by omega)] at z
      rw [if_neg z] at hl
      refine ⟨?_, rfl, rfl, rfl⟩
      rw [← hl, tp_s]
      exact eqn hxk
theorem u2_ru {m r k : Nat} {v : Int64} (hk : k < 8) : RU m (· = r) L (u2 L (m + 1) (8 * r + k) v) := ⟨fun y hy => u2_off _ _ hy, fun r' k' hr hk' => u2_ne _ _ (fun t => hr (by omega))⟩
theorem m_clear {m r : Nat} (hm : isX7 K m) (hr : r < 30) : ConV K yX7_clear wsX7_clear 0 0 I L A [.ref m, .int (nI r)] (fun I' L' A' => rp L' m r = p0 ∧ RU m (· = r) L L' ∧ I' = I ∧ A' = A) := by
  apply w_X7_clear
  unfold wp_X7_clear wp_X7_clear_2
  refine ⟨fun μ I' L' A' x => ∃ i, i + μ = 8 ∧ x = nI i ∧ I' = I ∧ (∀ k, k < i → rp L' m r k = 0) ∧ RU m (· = r) L L' ∧ A' = A, 8, ⟨0, rfl, rfl, rfl, fun k hk => absurd hk (Nat.not_lt_zero _), RU.refl _ _ _, rfl⟩, ?_⟩
  rintro μ C hC I' L' A' _ ⟨i, hi, rfl, rfl, h1, h2, rfl⟩
  refine ⟨fun q => ?_, fun q => ?_⟩
  · rw [ile, li8, tI (by omega)] at q
    refine ⟨funext fun k => ?_, h2, rfl, rfl⟩
    by_cases y : k < 8
    · exact h1 k (by omega)
    · exact if_neg y
  · rw [ile, li8, tI (by omega)] at q
    have hix := rix hr (show i < 8 by omega) (x := nI r) rfl (tI (k := i) (by omega))
    refine ⟨hm.1, rok hm hr (by omega) hix, fun L3 e3 v hv => ?_⟩
    rw [ix_of hix] at e3
    refine hC (μ - 1) _ _ _ _ (by omega) ⟨i + 1, by omega, by rw [hv, sI], rfl, fun k hk => ?_, h2.trans (by rw [e3]; exact u2_ru (by omega)), rfl⟩
    rw [rp_lt (by omega), e3]
    by_cases y : k = i
    · rw [y, u2_self]; rfl
    · rw [u2_ne _ _ (fun t => y (by omega)), ← rp_lt (by omega)]
      exact h1 k (by omega)
theorem m_copy {m r u : Nat} (hm : isX7 K m) (hr : r < 30) (hu : u < 30) : ConV K yX7_copy wsX7_copy 0 0 I L A [.ref m, .int (nI r), .int (nI u)] (fun I' L' A' => rp L' m r = rp L m u ∧ RU m (· = r) L L' ∧ I' = I ∧ A' = A) := by
  apply w_X7_copy
  unfold wp_X7_copy wp_X7_copy_2
  refine ⟨fun μ I' L' A' x => ∃ i, i + μ = 8 ∧ x = nI i ∧ I' = I ∧ (∀ k, k < i → rp L' m r k = rp L m u k) ∧ (∀ k, i ≤ k → k < 8 → L' (m + 1) (8 * r + k) = L (m + 1) (8 * r + k)) ∧ RU m (· = r) L L' ∧ A' = A, 8, ⟨0, rfl, rfl, rfl, fun k hk => absurd hk (Nat.not_lt_zero _), fun _ _ _ => rfl, RU.refl _ _ _, rfl⟩, ?_⟩
  rintro μ C hC I' L' A' _ ⟨i, hi, rfl, rfl, h1, h3, h2, rfl⟩
  refine ⟨fun q => ?_, fun q => ?_⟩
  · rw [ile, li8, tI (by omega)] at q
    refine ⟨funext fun k => ?_, h2, rfl, rfl⟩
    by_cases y : k < 8
    · exact h1 k (by omega)
    · rw [rp, if_neg y, rp, if_neg y]
  · rw [ile, li8, tI (by omega)] at q
    have hix := rix hr (show i < 8 by omega) (x := nI r) rfl (tI (k := i) (by omega))
    have hix2 := rix hu (show i < 8 by omega) (x := nI u) rfl (tI (k := i) (by omega))
    refine ⟨hm.1, rok hm hu (by omega) hix2, rok hm hr (by omega) hix, fun L3 e3 v hv => ?_⟩
    rw [ix_of hix, ix_of hix2] at e3
    have hsrc : L' (m + 1) (8 * u + i) = L (m + 1) (8 * u + i) := by
      by_cases y : u = r
      · rw [y]; exact h3 i (Nat.le_refl i) (by omega)
      · exact h2.2 u i y (by omega)
    rw [hsrc] at e3
    refine hC (μ - 1) _ _ _ _ (by omega) ⟨i + 1, by omega, by rw [hv, sI], rfl, fun k hk => ?_, fun k hk1 hk2 => ?_, h2.trans (by rw [e3]; exact u2_ru (by omega)), rfl⟩
    · rw [rp_lt (by omega), e3]
      by_cases y : k = i
      · rw [y, u2_self, rp_lt (by omega)]
      · rw [u2_ne _ _ (fun t => y (by omega)), ← rp_lt (by omega)]
        exact h1 k (by omega)
    · rw [e3, u2_ne _ _ (fun t => by omega)]
      exact h3 k (by omega) hk2
theorem len8 {f : PP} (h : dl f 8) : lnP f 8 = 0 ↔ f = p0 := by
  refine ⟨fun e => ?_, fun e => by rw [e]; rfl⟩
  by_cases q : f = p0
  · exact q
  · obtain ⟨d, hd1, hd2, hd3⟩ := dg_ex f 8 h q
    rw [lnP_of hd3 (fun e he => by rw [show e = d by omega]; exact hd2) (by omega)] at e
    omega
theorem lnP_le (f : PP) : ∀ n, lnP f n ≤ n
  | 0 => Nat.le_refl 0
  | n + 1 => by
    rw [lnP]
    have := lnP_le f n
    split <;> omega
theorem m_isZero {m r : Nat} (hm : isX7 K m) (hr : r < 30) : ConI K yX7_isZero wsX7_isZero 1 22 I L A [.ref m, .int (nI r)] (fun v I' L' A' => ((v = 1 ∧ rp L m r = p0) ∨ (v = 0 ∧ rp L m r ≠ p0)) ∧ I' = I ∧ L' = L ∧ A' = A) := by
  apply w_X7_isZero
  unfold wp_X7_isZero
  refine ⟨hm.1, _, m_degreeOf hm hr, ?_⟩
  rintro v I1 L1 A1 ⟨rfl, rfl, rfl, rfl⟩
  have hle := lnP_le (rp L1 m r) 8
  have h8 := len8 (rp_dl L1 m r)
  refine ⟨fun q => ⟨Or.inr ⟨rfl, fun z => ?_⟩, rfl, rfl, rfl⟩, fun q => ⟨Or.inl ⟨rfl, h8.mp ?_⟩, rfl, rfl, rfl⟩⟩
  · rw [ile, li0, tm1 (by omega), h8.mpr z] at q; omega
  · rw [ile, li0, tm1 (by omega)] at q; omega
/-- gcd of any two numbers but the least -/
theorem m_gcd {a b : Int64} (ha : -9223372036854775808 < a.toInt) (hb : -9223372036854775808 < b.toInt) : ConL K yX7_gcd wsX7_gcd 0 0 I L A [.long a, .long b] (fun v I' L' A' => v.toInt = (Nat.gcd a.toInt.natAbs b.toInt.natAbs : Int) ∧ I' = I ∧ L' = L ∧ A' = A) := by
  have key : ∀ (x y : Int64), x.toInt = (a.toInt.natAbs : Int) → y.toInt = (b.toInt.natAbs : Int) → wp_X7_gcd_28 K a b I L A x y (fun v I' L' A' => v.toInt = (Nat.gcd a.toInt.natAbs b.toInt.natAbs : Int) ∧ I' = I ∧ L' = L ∧ A' = A) := by
    intro x y hx hy
    unfold wp_X7_gcd_28
    refine ⟨fun μ I' L' A' x4 x6 => ∃ u : Nat, x4.toInt = u ∧ x6.toInt = μ ∧ Nat.gcd u μ = Nat.gcd a.toInt.natAbs b.toInt.natAbs ∧ I' = I ∧ L' = L ∧ A' = A, b.toInt.natAbs, ⟨_, hx, hy, rfl, rfl, rfl, rfl⟩, ?_⟩
    rintro μ C hC I' L' A' x4 x6 ⟨u, h4, h6, hg, rfl, rfl, rfl⟩
    refine ⟨fun q => ?_, fun q => ⟨q, fun v2 e2 => ?_⟩⟩
    · rw [j0, h6] at q
      have : μ = 0 := by omega
      subst this
      rw [Nat.gcd_zero_right] at hg
      exact ⟨by rw [h4, hg], rfl, rfl, rfl⟩
    · have hμ : 0 < μ := by
        rcases Nat.eq_zero_or_pos μ with z | z
        · exact absurd (j0.mpr (by rw [h6, z]; rfl)) q
        · exact z
      have hr : v2.toInt = ((u % μ : Nat) : Int) := by rw [e2, jrem x4 x6 (by omega)]; exact tmod_nat h4 h6
      refine hC (u % μ) _ _ _ _ _ (Nat.mod_lt u hμ) ⟨μ, h6, hr, ?_, rfl, rfl, rfl⟩
      rw [← hg, Nat.gcd_comm u μ, Nat.gcd_rec μ u, Nat.gcd_comm]
  have key2 : ∀ x : Int64, x.toInt = (a.toInt.natAbs : Int) → wp_X7_gcd_12 K a b I L A x (fun v I' L' A' => v.toInt = (Nat.gcd a.toInt.natAbs b.toInt.natAbs : Int) ∧ I' = I ∧ L' = L ∧ A' = A) := by
    intro x hx
    unfold wp_X7_gcd_12
    refine ⟨fun q => key x b hx ?_, fun q v3 e3 => key x v3 hx ?_⟩
    · rw [jle, show (0 : Int64).toInt = 0 from rfl] at q; omega
    · rw [jle, show (0 : Int64).toInt = 0 from rfl] at q
      rw [e3, jneg hb]; omega
  apply w_X7_gcd
  unfold wp_X7_gcd
  refine ⟨fun q => key2 a ?_, fun q => key2 (-a) ?_⟩
  · rw [jle, show (0 : Int64).toInt = 0 from rfl] at q; omega
  · rw [jle, show (0 : Int64).toInt = 0 from rfl] at q
    rw [jneg ha]; omega
end
