/-! THE REFERENCE: roots of numbers, squares -/
section
variable {K : Cx} {I : TI} {L : TL} {A : TA}
theorem lbig : (3037000499 : Int64).toInt = 3037000499 := by decide
theorem m_root {j : Int64} (hj : 0 ≤ j.toInt) : ConL K yX7_root wsX7_root 0 0 I L A [.long j] (fun v I' L' A' => (0 ≤ v.toInt ∧ v.toInt ≤ 3037000499 ∧ v.toInt * v.toInt ≤ j.toInt ∧ j.toInt < (v.toInt + 1) * (v.toInt + 1)) ∧ I' = I ∧ L' = L ∧ A' = A) := by
  have hjm := Int64.toInt_lt j
  have l1 : (1 : Int64).toInt = 1 := rfl
  apply w_X7_root
  unfold wp_X7_root wp_X7_root_7
  refine ⟨fun μ I' L' A' x2 x4 => ∃ lo hi : Nat, lo + μ = hi ∧ hi ≤ 3037000499 ∧ x2.toInt = lo ∧ x4.toInt = hi ∧ (lo : Int) * lo ≤ j.toInt ∧ j.toInt < ((hi : Int) + 1) * ((hi : Int) + 1) ∧ I' = I ∧ L' = L ∧ A' = A, 3037000499, ⟨0, 3037000499, rfl, Nat.le_refl _, rfl, lbig, by simpa using hj, ?_, rfl, rfl, rfl⟩, ?_⟩
  · have e : (((3037000499 : Nat) : Int) + 1) * (((3037000499 : Nat) : Int) + 1) = 9223372037000250000 := by decide
    rw [e]; omega
  rintro μ C hC I1 L1 A1 x2 x4 ⟨lo, hi, hμ, hhi, h2, h4, ha, hb, rfl, rfl, rfl⟩
  refine ⟨fun z => ?_, fun z v1 e1 => ?_⟩
  · rw [jle, h2, h4] at z
    have : lo = hi := by omega
    subst this
    rw [h2]
    exact ⟨⟨by omega, by omega, ha, hb⟩, rfl, rfl, rfl⟩
  · rw [jle, h2, h4] at z
    have hs : (x2 + x4).toInt = (lo : Int) + hi := by rw [jadd (by rw [h2, h4]; omega) (by rw [h2, h4]; omega), h2, h4]
    have hs1 : ((x2 + x4) + 1).toInt = (lo : Int) + hi + 1 := by rw [jadd (by rw [hs, l1]; omega) (by rw [hs, l1]; omega), hs, l1]
    obtain ⟨mid, hm⟩ : ∃ mid : Nat, mid = (lo + hi + 1) / 2 := ⟨_, rfl⟩
    have hv1 : v1.toInt = (mid : Int) := by
      rw [e1, jdiv (by rw [hs1]; omega), hs1, show (2 : Int64).toInt = 2 from rfl, Int.tdiv_eq_ediv_of_nonneg (by omega), hm]; omega
    have hvv : (v1 * v1).toInt = (mid : Int) * mid := by
      rw [jmulB (m := 3037000499) (n := 3037000499) (by rw [hv1]; omega) (by rw [hv1]; omega) (by decide), hv1]
    refine ⟨fun w v2 e2 => ?_, fun w => ?_⟩
    · rw [jlt, hvv] at w
      have hv2 : v2.toInt = ((mid - 1 : Nat) : Int) := by rw [e2, jsub (by rw [hv1, l1]; omega) (by rw [hv1, l1]; omega), hv1, l1]; omega
      refine hC (mid - 1 - lo) _ _ _ _ _ (by omega) ⟨lo, mid - 1, by omega, by omega, h2, hv2, ha, ?_, rfl, rfl, rfl⟩
      rw [show ((mid - 1 : Nat) : Int) + 1 = (mid : Int) by omega]; exact w
    · rw [jlt, hvv] at w
      exact hC (hi - mid) _ _ _ _ _ (by omega) ⟨mid, hi, by omega, by omega, hv1, h4, by omega, hb, rfl, rfl, rfl⟩
theorem root_sq {R j : Int} (h0 : 0 ≤ R) (h1 : R * R ≤ j) (h2 : j < (R + 1) * (R + 1)) : R * R = j ↔ Sq j := by
  constructor
  · intro h; exact ⟨R, h⟩
  · rintro ⟨k, hk⟩
    have hab : k * k = ((k.natAbs : Nat) : Int) * ((k.natAbs : Nat) : Int) := by
      rw [← Int.natCast_mul, ← Int.natAbs_mul]
      have := sq_nn k
      omega
    rw [← hk, hab] at h1 h2 ⊢
    obtain ⟨m, hm⟩ : ∃ m : Int, m = (k.natAbs : Int) := ⟨_, rfl⟩
    rw [← hm] at h1 h2 ⊢
    have hm0 : 0 ≤ m := by omega
    rcases Int.lt_trichotomy R m with w | w | w
    · have := Int.mul_le_mul (show R + 1 ≤ m by omega) (show R + 1 ≤ m by omega) (by omega) hm0
      omega
    · rw [w]
    · have h3 := Int.mul_le_mul (show m + 1 ≤ R by omega) (show m + 1 ≤ R by omega) (by omega) h0
      have e : (m + 1) * (m + 1) = m * m + 2 * m + 1 := by grind
      omega
theorem m_isSquare {j : Int64} : ConI K yX7_isSquare wsX7_isSquare 1 27 I L A [.long j] (fun v I' L' A' => ((v = 1 ∧ Sq j.toInt) ∨ (v = 0 ∧ ¬ Sq j.toInt)) ∧ I' = I ∧ L' = L ∧ A' = A) := by
  apply w_X7_isSquare
  unfold wp_X7_isSquare
  refine ⟨fun z => ⟨Or.inr ⟨rfl, fun ⟨k, hk⟩ => ?_⟩, rfl, rfl, rfl⟩, fun z => ?_⟩
  · rw [jlt, show (0 : Int64).toInt = 0 from rfl] at z
    have := sq_nn k
    omega
  rw [jlt, show (0 : Int64).toInt = 0 from rfl] at z
  refine ⟨_, m_root (by omega), ?_⟩
  rintro r1 I1 L1 A1 ⟨⟨a1, a2, a3, a4⟩, rfl, rfl, rfl⟩
  refine ⟨_, m_root (by omega), ?_⟩
  rintro r2 I2 L2 A2 ⟨⟨b1, b2, b3, b4⟩, rfl, rfl, rfl⟩
  have e : r1.toInt = r2.toInt := by
    rcases Int.lt_trichotomy r1.toInt r2.toInt with w | w | w
    · have := Int.mul_le_mul (show r1.toInt + 1 ≤ r2.toInt by omega) (show r1.toInt + 1 ≤ r2.toInt by omega) (by omega) (by omega)
      omega
    · exact w
    · have := Int.mul_le_mul (show r2.toInt + 1 ≤ r1.toInt by omega) (show r2.toInt + 1 ≤ r1.toInt by omega) (by omega) (by omega)
      omega
  have hm : (r1 * r2).toInt = r1.toInt * r1.toInt := by
    rw [jmulB (m := 3037000499) (n := 3037000499) (by omega) (by omega) (by decide), e]
  have key := root_sq a1 a3 a4
  refine ⟨fun w => ⟨Or.inl ⟨rfl, key.mp ?_⟩, rfl, rfl, rfl⟩, fun w => ⟨Or.inr ⟨rfl, fun q => w (jext ?_)⟩, rfl, rfl, rfl⟩⟩
  · rw [← hm, w]
  · rw [hm]; exact key.mpr q
theorem jdivn {x g : Int64} {d n : Nat} (hx : x.toInt = (n : Int)) (hg : g.toInt = (d : Int)) : (x / g).toInt = ((n / d : Nat) : Int) := by
  rw [jdiv (by omega), hx, hg]; exact Int.ofNat_tdiv n d
theorem m_isSquareBeside {x y : Int64} (hx : x.toInt.natAbs < 4611686018427387904) (hy : y.toInt.natAbs < 4611686018427387904) : ConI K yX7_isSquareBeside wsX7_isSquareBeside 2 48 I L A [.long x, .long y] (fun v I' L' A' => ((v = 1 ∧ sqB x.toInt y.toInt) ∨ (v = 0 ∧ ¬ sqB x.toInt y.toInt)) ∧ I' = I ∧ L' = L ∧ A' = A) := by
  have l0 : (0 : Int64).toInt = 0 := rfl
  apply w_X7_isSquareBeside
  unfold wp_X7_isSquareBeside
  refine ⟨fun z => ⟨Or.inl ⟨rfl, Or.inl (by rw [z]; rfl)⟩, rfl, rfl, rfl⟩, fun z => ⟨_, m_isSquare, ?_⟩⟩
  have hx0 : x.toInt ≠ 0 := fun q => z (j0.mpr q)
  rintro v I1 L1 A1 ⟨hv, rfl, rfl, rfl⟩
  refine ⟨fun z2 => ?_, fun z2 => ⟨Or.inl ⟨rfl, Or.inr (Or.inl (way1 hv z2))⟩, rfl, rfl, rfl⟩⟩
  have hns := way0 hv z2
  refine ⟨_, m_gcd (by omega) (by omega), ?_⟩
  rintro g I2 L2 A2 ⟨hg, rfl, rfl, rfl⟩
  obtain ⟨gn, hgn⟩ : ∃ gn, gn = Nat.gcd x.toInt.natAbs y.toInt.natAbs := ⟨_, rfl⟩
  rw [← hgn] at hg
  have hg0 : 0 < gn := by rw [hgn]; exact Nat.gcd_pos_of_pos_left _ (Int.natAbs_pos.mpr hx0)
  have hgne : ¬ g = 0 := fun q => by rw [j0, hg] at q; omega
  have iff1 : sqB x.toInt y.toInt ↔ ((x.toInt < 0 ↔ y.toInt < 0) ∧ Sq ((x.toInt.natAbs / gn : Nat) : Int) ∧ Sq ((y.toInt.natAbs / gn : Nat) : Int)) := by
    unfold sqB
    rw [← hgn]
    constructor
    · rintro (q | q | q)
      · exact absurd q hx0
      · exact absurd q hns
      · exact q
    · intro q; exact Or.inr (Or.inr q)
  obtain ⟨Z, hZ⟩ : ∃ Z : Int32 → TI → TL → TA → Prop, Z = fun v I' L' A' => ((v = 1 ∧ sqB x.toInt y.toInt) ∨ (v = 0 ∧ ¬ sqB x.toInt y.toInt)) ∧ I' = I2 ∧ L' = L2 ∧ A' = A2 := ⟨_, rfl⟩
  rw [← hZ]
  have s80 : ∀ y0 : Int64, y0.toInt = (y.toInt.natAbs : Int) → (x.toInt < 0 ↔ y.toInt < 0) → Sq ((x.toInt.natAbs / gn : Nat) : Int) → wp_X7_isSquareBeside_80 K x y I2 L2 A2 g y0 Z := fun y0 hy0 hs hq => by
    unfold wp_X7_isSquareBeside_80
    refine ⟨hgne, _, m_isSquare, ?_⟩
    rintro r I3 L3 A3 ⟨hr, rfl, rfl, rfl⟩
    rw [jdivn hy0 hg] at hr
    rw [hZ]
    exact ⟨fun w => ⟨Or.inr ⟨rfl, fun q => way0 hr w (iff1.mp q).2.2⟩, rfl, rfl, rfl⟩, fun w => ⟨Or.inl ⟨rfl, iff1.mpr ⟨hs, hq, way1 hr w⟩⟩, rfl, rfl, rfl⟩⟩
  have s59 : ∀ y0 : Int64, y0.toInt = (x.toInt.natAbs : Int) → (x.toInt < 0 ↔ y.toInt < 0) → wp_X7_isSquareBeside_59 K x y I2 L2 A2 g y0 Z := fun y0 hy0 hs => by
    unfold wp_X7_isSquareBeside_59
    refine ⟨hgne, _, m_isSquare, ?_⟩
    rintro r I3 L3 A3 ⟨hr, rfl, rfl, rfl⟩
    rw [jdivn hy0 hg] at hr
    refine ⟨fun w => ?_, fun w => ⟨fun w2 => s80 y ?_ hs (way1 hr w), fun w2 => s80 (-y) ?_ hs (way1 hr w)⟩⟩
    · rw [hZ]
      exact ⟨Or.inr ⟨rfl, fun q => way0 hr w (iff1.mp q).2.1⟩, rfl, rfl, rfl⟩
    · rw [jle, l0] at w2; omega
    · rw [jle, l0] at w2
      rw [jneg (by omega)]; omega
  have s44 : (x.toInt < 0 ↔ y.toInt < 0) → ((0 ≤ x → wp_X7_isSquareBeside_59 K x y I2 L2 A2 g x Z) ∧ (¬ 0 ≤ x → wp_X7_isSquareBeside_59 K x y I2 L2 A2 g (-x) Z)) := fun hs => by
    refine ⟨fun w => s59 x ?_ hs, fun w => s59 (-x) ?_ hs⟩
    · rw [jle, l0] at w; omega
    · rw [jle, l0] at w
      rw [jneg (by omega)]; omega
  have nsg : ¬ (x.toInt < 0 ↔ y.toInt < 0) → Z 0 I2 L2 A2 := fun hn => by
    rw [hZ]
    exact ⟨Or.inr ⟨rfl, fun q => hn (iff1.mp q).1⟩, rfl, rfl, rfl⟩
  unfold wp_X7_isSquareBeside_33 wp_X7_isSquareBeside_44
  refine ⟨fun w => ⟨fun w2 => ⟨fun _ => s44 ?_, fun q => absurd rfl q⟩, fun w2 => ⟨fun q => absurd q (by decide), fun _ => nsg ?_⟩⟩, fun w => ⟨fun w2 => ⟨fun q => absurd q (by decide), fun _ => nsg ?_⟩, fun w2 => ⟨fun _ => s44 ?_, fun q => absurd rfl q⟩⟩⟩
  · rw [jle, l0] at w w2; omega
  · rw [jle, l0] at w w2; omega
  · rw [jle, l0] at w w2; omega
  · rw [jle, l0] at w w2; omega
end
