/-! GROUPS: products of squares, cubics, quartics -/
section
variable {K : Cx} {I : TI} {L : TL} {A : TA}
/-- two numbers whose product is a square, as it is decided without the product -/
def sqP (x y : Int) : Prop := x = 0 ∨ y = 0 ∨ ((x < 0 ↔ y < 0) ∧ Sq ((x.natAbs / Nat.gcd x.natAbs y.natAbs : Nat) : Int) ∧ Sq ((y.natAbs / Nat.gcd x.natAbs y.natAbs : Nat) : Int))
theorem abs_div {x g : Int64} {d : Nat} (hx : x.toInt.natAbs < 4611686018427387904) (hg : g.toInt = (d : Int)) : (absJ (x / g)).toInt = ((x.toInt.natAbs / d : Nat) : Int) := by
  have h1 : (x / g).toInt = x.toInt.tdiv g.toInt := jdiv (by omega)
  have h2 : (x / g).toInt.natAbs = x.toInt.natAbs / d := by
    rw [h1, hg, Int.natAbs_tdiv, Int.natAbs_natCast]
    rfl
  have h3 := Nat.div_le_self x.toInt.natAbs d
  rw [absJ_i (by omega), h2]
theorem s_isSquareProduct {x y : Int64} (hx : x.toInt.natAbs < 34359738368) (hy : y.toInt.natAbs < 4611686018427387904) : ConI K yX1_isSquareProduct wsX1_isSquareProduct 2 70 I L A [.long x, .long y] (fun v I' L' A' => ((v = 1 ∧ sqP x.toInt y.toInt) ∨ (v = 0 ∧ ¬ sqP x.toInt y.toInt)) ∧ I' = I ∧ L' = L ∧ A' = A) := by
  apply w_X1_isSquareProduct
  unfold wp_X1_isSquareProduct
  refine ⟨_, s_gcd2 hx hy, ?_⟩
  rintro g I1 L1 A1 ⟨hg, rfl, rfl, rfl⟩
  refine ⟨fun z => ⟨Or.inl ⟨rfl, Or.inl (by rw [z]; rfl)⟩, rfl, rfl, rfl⟩, fun z => ⟨fun z2 => ⟨Or.inl ⟨rfl, Or.inr (Or.inl (by rw [z2]; rfl))⟩, rfl, rfl, rfl⟩, fun z2 => ⟨fun z3 => ?_, fun z3 => ?_⟩⟩⟩
  · exfalso
    rw [j0, hg] at z3
    have : 0 < Nat.gcd x.toInt.natAbs y.toInt.natAbs := Nat.gcd_pos_of_pos_left _ (Int.natAbs_pos.mpr (fun q => z (j0.mpr q)))
    omega
  have hx0 : x.toInt ≠ 0 := fun q => z (j0.mpr q)
  have hy0 : y.toInt ≠ 0 := fun q => z2 (j0.mpr q)
  have hax := abs_div (d := Nat.gcd x.toInt.natAbs y.toInt.natAbs) (x := x) (by omega) hg
  have hay := abs_div (d := Nat.gcd x.toInt.natAbs y.toInt.natAbs) (x := y) hy hg
  have hdx := Nat.div_le_self x.toInt.natAbs (Nat.gcd x.toInt.natAbs y.toInt.natAbs)
  have hdy := Nat.div_le_self y.toInt.natAbs (Nat.gcd x.toInt.natAbs y.toInt.natAbs)
  have main : (x.toInt < 0 ↔ y.toInt < 0) → ¬ g = 0 ∧ ∃ P2, ConI K yX1_isSquare wsX1_isSquare 0 0 I1 L1 A1 [.long (absJ (x / g))] P2 ∧ ∀ (r7 : Int32) (I4 : TI) (L5 : TL) (A6 : TA), P2 r7 I4 L5 A6 → ((r7 = 0 → ((0 : Int32) = 1 ∧ sqP x.toInt y.toInt ∨ (0 : Int32) = 0 ∧ ¬ sqP x.toInt y.toInt) ∧ I4 = I1 ∧ L5 = L1 ∧ A6 = A1) ∧ (¬ r7 = 0 → ¬ g = 0 ∧ ∃ P9, ConI K yX1_isSquare wsX1_isSquare 0 0 I4 L5 A6 [.long (absJ (y / g))] P9 ∧ ∀ (r14 : Int32) (I11 : TI) (L12 : TL) (A13 : TA), P9 r14 I11 L12 A13 → ((r14 = 0 → ((0 : Int32) = 1 ∧ sqP x.toInt y.toInt ∨ (0 : Int32) = 0 ∧ ¬ sqP x.toInt y.toInt) ∧ I11 = I1 ∧ L12 = L1 ∧ A13 = A1) ∧ (¬ r14 = 0 → ((1 : Int32) = 1 ∧ sqP x.toInt y.toInt ∨ (1 : Int32) = 0 ∧ ¬ sqP x.toInt y.toInt) ∧ I11 = I1 ∧ L12 = L1 ∧ A13 = A1)))) := fun hsg => by
    refine ⟨z3, _, s_isSquare (by rw [hax]; omega), ?_⟩
    rintro r7 I4 L5 A6 ⟨h7, rfl, rfl, rfl⟩
    rw [hax] at h7
    refine ⟨fun w => ⟨Or.inr ⟨rfl, fun q => ?_⟩, rfl, rfl, rfl⟩, fun w => ⟨z3, _, s_isSquare (by rw [hay]; omega), ?_⟩⟩
    · have := (h7.resolve_left (fun t => by rw [t.1] at w; exact absurd w (by decide))).2
      rcases q with q | q | q
      · exact hx0 q
      · exact hy0 q
      · exact this q.2.1
    · have h7' := (h7.resolve_right (fun t => w t.1)).2
      rintro r14 I11 L12 A13 ⟨h14, rfl, rfl, rfl⟩
      rw [hay] at h14
      refine ⟨fun w2 => ⟨Or.inr ⟨rfl, fun q => ?_⟩, rfl, rfl, rfl⟩, fun w2 => ⟨Or.inl ⟨rfl, Or.inr (Or.inr ⟨hsg, h7', (h14.resolve_right (fun t => w2 t.1)).2⟩)⟩, rfl, rfl, rfl⟩⟩
      have := (h14.resolve_left (fun t => by rw [t.1] at w2; exact absurd w2 (by decide))).2
      rcases q with q | q | q
      · exact hx0 q
      · exact hy0 q
      · exact this q.2.2
  have nsg : ¬ (x.toInt < 0 ↔ y.toInt < 0) → ((0 : Int32) = 1 ∧ sqP x.toInt y.toInt ∨ (0 : Int32) = 0 ∧ ¬ sqP x.toInt y.toInt) ∧ I1 = I1 ∧ L1 = L1 ∧ A1 = A1 := fun hn => ⟨Or.inr ⟨rfl, fun q => by
    rcases q with q | q | q
    · exact hx0 q
    · exact hy0 q
    · exact hn q.1⟩, rfl, rfl, rfl⟩
  unfold wp_X1_isSquareProduct_39 wp_X1_isSquareProduct_50
  refine ⟨fun w => ⟨fun w2 => ⟨fun _ => main ?_, fun q => absurd rfl q⟩, fun w2 => ⟨fun q => absurd q (by decide), fun _ => nsg ?_⟩⟩, fun w => ⟨fun w2 => ⟨fun q => absurd q (by decide), fun _ => nsg ?_⟩, fun w2 => ⟨fun _ => main ?_, fun q => absurd rfl q⟩⟩⟩
  · rw [jle, show (0 : Int64).toInt = 0 from rfl] at w w2; omega
  · rw [jle, show (0 : Int64).toInt = 0 from rfl] at w w2; omega
  · rw [jle, show (0 : Int64).toInt = 0 from rfl] at w w2; omega
  · rw [jle, show (0 : Int64).toInt = 0 from rfl] at w w2; omega
/-- the discriminant of a cubic, as it is written -/
def dsI (a b c d : Int) : Int := b * b * c * c - 4 * a * c * c * c - 4 * b * b * b * d - 27 * a * a * d * d + 18 * a * b * c * d
theorem s_disc {a b c d : Int64} {A' B C D : Int} (ha : jc a A') (hb : jc b B) (hc : jc c C) (hd : jc d D) : ConL K yX1_discriminantOf wsX1_discriminantOf 0 0 I L A [.long a, .long b, .long c, .long d] (fun v I' L' A'' => jc v (dsI A' B C D) ∧ I' = I ∧ L' = L ∧ A'' = A) := by
  apply w_X1_discriminantOf
  unfold wp_X1_discriminantOf
  have l4 : jc 4 4 := jc_of rfl
  have l27 : jc 27 27 := jc_of rfl
  have l18 : jc 18 18 := jc_of rfl
  exact ⟨((((((hb.mul hb).mul hc).mul hc).sub (((((l4.mul ha).mul hc).mul hc).mul hc))).sub ((((l4.mul hb).mul hb).mul hb).mul hd)).sub ((((l27.mul ha).mul ha).mul hd).mul hd)).add ((((l18.mul ha).mul hb).mul hc).mul hd), rfl, rfl, rfl⟩
theorem m5 {a b c d e : Int} {A' B C D E : Nat} (h1 : a.natAbs ≤ A') (h2 : b.natAbs ≤ B) (h3 : c.natAbs ≤ C) (h4 : d.natAbs ≤ D) (h5 : e.natAbs ≤ E) : (a * b * c * d * e).natAbs ≤ A' * B * C * D * E := mul_ab (mul_ab (mul_ab (mul_ab h1 h2) h3) h4) h5
theorem dsI_bd {a b c d : Int} {Aa B C D : Nat} (h1 : a.natAbs ≤ Aa) (h2 : b.natAbs ≤ B) (h3 : c.natAbs ≤ C) (h4 : d.natAbs ≤ D) : (dsI a b c d).natAbs ≤ B * B * C * C + 4 * Aa * C * C * C + 4 * B * B * B * D + 27 * Aa * Aa * D * D + 18 * Aa * B * C * D := by
  have t1 : (b * b * c * c).natAbs ≤ B * B * C * C := mul_ab (mul_ab (mul_ab h2 h2) h3) h3
  have t2 := m5 (a := 4) (A' := 4) (by decide) h1 h3 h3 h3
  have t3 := m5 (a := 4) (A' := 4) (by decide) h2 h2 h2 h4
  have t4 := m5 (a := 27) (A' := 27) (by decide) h1 h1 h4 h4
  have t5 := m5 (a := 18) (A' := 18) (by decide) h1 h2 h3 h4
  unfold dsI
  omega
/-- the coefficients, one by one -/
theorem s_at' {r : Nat} {x : Int32} {k : Nat} (h : isRow K r) (hx : x.toInt = k) (hk : k < 13) : ConL K yX4_at wsX4_at 0 0 I L A [.ref r, .int x] (fun v I' L' A' => v.toInt = pl L r k ∧ I' = I ∧ L' = L ∧ A' = A) := by
  apply w_X4_at
  unfold wp_X4_at
  refine ⟨fun q => ?_, fun q => ⟨fun q2 => ⟨h.1, h.ok' hx hk, ?_, rfl, rfl, rfl⟩, fun q2 => ?_⟩⟩
  · rw [ilt, li0] at q; omega
  · rw [ix_of hx, pl_lt hk]
  · rw [ilt, li13] at q2; omega
theorem s_ofCubic {r : Nat} (h : isRow K r) (hb : ∀ k, (pl L r k).natAbs ≤ 300) : ConI K yX1_ofCubic wsX1_ofCubic 1 27 I L A [.ref r] (fun v I' L' A' => ((v = 3 ∧ Sq (dsI (pl L r 3) (pl L r 2) (pl L r 1) (pl L r 0))) ∨ (v = 4 ∧ ¬ Sq (dsI (pl L r 3) (pl L r 2) (pl L r 1) (pl L r 0)))) ∧ I' = I ∧ L' = L ∧ A' = A) := by
  apply w_X1_ofCubic
  unfold wp_X1_ofCubic
  refine ⟨h.1, _, s_at' (k := 3) h (by decide) (by omega), ?_⟩
  rintro v3 I1 L1 A1 ⟨h3, rfl, rfl, rfl⟩
  refine ⟨_, s_at' (k := 2) h (by decide) (by omega), ?_⟩
  rintro v2 I1 L1 A1 ⟨h2, rfl, rfl, rfl⟩
  refine ⟨_, s_at' (k := 1) h (by decide) (by omega), ?_⟩
  rintro v1 I1 L1 A1 ⟨h1, rfl, rfl, rfl⟩
  refine ⟨_, s_at' (k := 0) h (by decide) (by omega), ?_⟩
  rintro v0 I1 L1 A1 ⟨h0, rfl, rfl, rfl⟩
  refine ⟨_, s_disc (jc_of h3) (jc_of h2) (jc_of h1) (jc_of h0), ?_⟩
  rintro w I1 L1 A1 ⟨hw, rfl, rfl, rfl⟩
  have hbd := dsI_bd (hb 3) (hb 2) (hb 1) (hb 0)
  have hw' := hw.eq (by omega) (by omega)
  refine ⟨_, s_isSquare (by rw [hw']; omega), ?_⟩
  rintro v I2 L2 A2 ⟨hv, rfl, rfl, rfl⟩
  rw [hw'] at hv
  refine ⟨fun z => ⟨Or.inr ⟨rfl, (hv.resolve_left (fun t => by rw [t.1] at z; exact absurd z (by decide))).2⟩, rfl, rfl, rfl⟩, fun z => ⟨Or.inl ⟨rfl, (hv.resolve_right (fun t => z t.1)).2⟩, rfl, rfl, rfl⟩⟩
end
