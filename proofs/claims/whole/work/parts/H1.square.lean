/-! GROUPS: squares, discriminants -/
section
variable {K : Cx} {I : TI} {L : TL} {A : TA}
theorem s_gcd2 {a b : Int64} (ha : a.toInt.natAbs < 34359738368) (hb : b.toInt.natAbs < 4611686018427387904) : ConL K yX6_greatestDivisor wsX6_greatestDivisor 1 40 I L A [.long a, .long b] (fun v I' L' A' => v.toInt = (Nat.gcd a.toInt.natAbs b.toInt.natAbs : Int) ∧ I' = I ∧ L' = L ∧ A' = A) := by
  apply w_X6_greatestDivisor
  unfold wp_X6_greatestDivisor wp_X6_greatestDivisor_15
  intro v4 e4 v5 e5
  have h4 : v4.toInt = (a.toInt.natAbs : Int) := by rw [e4]; exact absJ_i (by omega)
  have h5 : v5.toInt = (b.toInt.natAbs : Int) := by rw [e5]; exact absJ_i (by omega)
  refine ⟨fun μ I' L' A' x y n => ∃ (i u v : Nat), i + μ = 100 ∧ n = nI i ∧ x.toInt = u ∧ y.toInt = v ∧ Nat.gcd u v = Nat.gcd a.toInt.natAbs b.toInt.natAbs ∧ u < 4611686018427387904 ∧ v < 4611686018427387904 ∧ ((i = 0 ∧ u < 34359738368) ∨ (v < u ∧ u * v * 2 ^ (i - 1) < 2 ^ 98)) ∧ I' = I ∧ L' = L ∧ A' = A, 100, ⟨0, _, _, rfl, rfl, h4, h5, rfl, by omega, hb, Or.inl ⟨rfl, ha⟩, rfl, rfl, rfl⟩, ?_⟩
  rintro μ C hC I' L' A' x y _ ⟨i, u, v, hi, rfl, hx, hy, hg, hu, hv, hp, hI, hL, hA⟩
  have done : v = 0 → x.toInt = (Nat.gcd a.toInt.natAbs b.toInt.natAbs : Int) := fun z => by
    rw [hx, ← hg, z, Nat.gcd_zero_right]
  refine ⟨fun q => ?_, fun q => ⟨fun q2 => ?_, fun q2 => ?_⟩⟩
  · rw [ile, li100, tI (by omega)] at q
    have hi100 : i = 100 := by omega
    subst hi100
    refine ⟨done ?_, hI, hL, hA⟩
    rcases hp with hp | hp
    · cases hp.1
    · rcases Nat.eq_zero_or_pos v with z | z
      · exact z
      · have h1 : 1 ≤ u * v := Nat.mul_pos (by omega) z
        have h2 : 1 * 2 ^ (100 - 1) ≤ u * v * 2 ^ (100 - 1) := Nat.mul_le_mul_right _ h1
        have h3 : (2 : Nat) ^ 98 < 2 ^ 99 := by decide
        omega
  · have : v = 0 := by rw [j0, hy] at q2; omega
    exact ⟨done this, hI, hL, hA⟩
  · have hv0 : v ≠ 0 := fun z => q2 (by rw [j0, hy, z]; rfl)
    rw [ile, li100, tI (by omega)] at q
    refine ⟨q2, fun v2 e2 v3 e3 => ?_⟩
    have hr : v2.toInt = ((u % v : Nat) : Int) := by rw [e2, jrem x y (by omega)]; exact tmod_nat hx hy
    have hlt := Nat.mod_lt u (show v > 0 by omega)
    refine hC (μ - 1) _ _ _ _ _ _ (by omega) ⟨i + 1, v, u % v, by omega, by rw [e3, sI], hy, hr, ?_, hv, by omega, Or.inr ⟨hlt, ?_⟩, hI, hL, hA⟩
    · rw [← hg, Nat.gcd_comm u v, Nat.gcd_rec v u, Nat.gcd_comm]
    · rw [show i + 1 - 1 = i by omega]
      rcases hp with hp | hp
      · obtain ⟨hp, hu35⟩ := hp
        subst hp
        have h1 : v * (u % v) < 4611686018427387904 * 34359738368 := Nat.mul_lt_mul_of_lt_of_le hv (by have := Nat.mod_le u v; omega) (by omega)
        rw [Nat.pow_zero, Nat.mul_one]
        exact Nat.lt_of_lt_of_le h1 (by decide)
      · have h1 : 2 * (u % v) ≤ u := by
          have := Nat.div_add_mod u v
          have h2 : 1 ≤ u / v := (Nat.one_le_div_iff (by omega)).mpr (by omega)
          have h3 : v * 1 ≤ v * (u / v) := Nat.mul_le_mul_left v h2
          omega
        have h2 : v * (2 * (u % v)) ≤ v * u := Nat.mul_le_mul_left v h1
        have h3 : v * (u % v) * 2 ^ i ≤ u * v * 2 ^ (i - 1) := by
          rcases Nat.eq_zero_or_pos i with z | z
          · subst z
            have h4 : v * (u % v) ≤ u * v := by rw [Nat.mul_comm u v]; exact Nat.mul_le_mul_left v (by omega)
            exact Nat.mul_le_mul_right _ h4
          · have e : (2 : Nat) ^ i = 2 * 2 ^ (i - 1) := by rw [← Nat.pow_succ', show (i - 1).succ = i by omega]
            rw [e, ← Nat.mul_assoc]
            refine Nat.mul_le_mul_right _ ?_
            rw [Nat.mul_comm u v, Nat.mul_assoc, Nat.mul_comm (u % v) 2]
            exact h2
        omega
/-- the same modulo 2^64 -/
def jc (x : Int64) (X : Int) : Prop := (18446744073709551616 : Int) ∣ x.toInt - X
theorem jc_of {x : Int64} {X : Int} (h : x.toInt = X) : jc x X := ⟨0, by rw [h]; omega⟩
theorem bm_c (X : Int) : (18446744073709551616 : Int) ∣ Int.bmod X (2 ^ 64) - X := by
  have := Int.dvd_bmod_sub_self (x := X) (m := 2 ^ 64)
  exact this
theorem dvd_cg {m a b c : Int} (h1 : m ∣ a - b) (h2 : m ∣ b - c) : m ∣ a - c := by
  have := Int.dvd_add h1 h2
  rwa [show a - b + (b - c) = a - c by omega] at this
theorem jc.add {x y : Int64} {X Y : Int} (h1 : jc x X) (h2 : jc y Y) : jc (x + y) (X + Y) := by
  unfold jc at *
  rw [Int64.toInt_add]
  refine dvd_cg (bm_c _) ?_
  have := Int.dvd_add h1 h2
  rwa [show x.toInt - X + (y.toInt - Y) = x.toInt + y.toInt - (X + Y) by omega] at this
theorem jc.sub {x y : Int64} {X Y : Int} (h1 : jc x X) (h2 : jc y Y) : jc (x - y) (X - Y) := by
  unfold jc at *
  rw [Int64.toInt_sub]
  refine dvd_cg (bm_c _) ?_
  have := Int.dvd_sub h1 h2
  rwa [show x.toInt - X - (y.toInt - Y) = x.toInt - y.toInt - (X - Y) by omega] at this
theorem jc.mul {x y : Int64} {X Y : Int} (h1 : jc x X) (h2 : jc y Y) : jc (x * y) (X * Y) := by
  unfold jc at *
  rw [Int64.toInt_mul]
  refine dvd_cg (bm_c _) ?_
  have h3 := Int.dvd_mul_of_dvd_right (b := x.toInt) h2
  have h4 := Int.dvd_mul_of_dvd_right (b := Y) h1
  have := Int.dvd_add h3 h4
  have e : x.toInt * (y.toInt - Y) + Y * (x.toInt - X) = x.toInt * y.toInt - X * Y := by grind
  rwa [e] at this
theorem jc.neg {x : Int64} {X : Int} (h1 : jc x X) : jc (-x) (-X) := by
  unfold jc at *
  rw [Int64.toInt_neg]
  refine dvd_cg (bm_c _) ?_
  have := Int.dvd_neg.mpr h1
  rwa [show -(x.toInt - X) = -x.toInt - -X by omega] at this
theorem jc.eq {x : Int64} {X : Int} (h : jc x X) (h1 : -9223372036854775808 ≤ X) (h2 : X < 9223372036854775808) : x.toInt = X := by
  obtain ⟨c, hc⟩ := h
  have a := Int64.toInt_lt x
  have b := Int64.le_toInt x
  omega
theorem jofN {k : Nat} (h : k < 9223372036854775808) : (Int64.ofNat k).toInt = (k : Int) := Int64.toInt_ofNat_of_lt h
theorem jor (a b : Nat) : Int64.ofNat a ||| Int64.ofNat b = Int64.ofNat (a ||| b) := by
  apply Int64.toBitVec_inj.mp
  rw [Int64.toBitVec_or]
  show BitVec.ofNat 64 a ||| BitVec.ofNat 64 b = BitVec.ofNat 64 (a ||| b)
  rw [BitVec.ofNat_or]
set_option maxRecDepth 100000 in
theorem jshl : ∀ b, b < 31 → (1 : Int64) <<< (Int32.toInt64 (nI b) &&& 63) = Int64.ofNat (2 ^ b) := by decide
/-- isSquare -/
theorem s_isSquare {j : Int64} (hj : j.toInt < 4611686018427387904) : ConI K yX1_isSquare wsX1_isSquare 0 0 I L A [.long j] (fun v I' L' A' => ((v = 1 ∧ Sq j.toInt) ∨ (v = 0 ∧ ¬ Sq j.toInt)) ∧ I' = I ∧ L' = L ∧ A' = A) := by
  apply w_X1_isSquare
  unfold wp_X1_isSquare wp_X1_isSquare_6
  refine ⟨fun μ I' L' A' x2 x4 => ∃ R : Nat, μ ≤ 31 ∧ x4 = tpI μ ∧ x2 = Int64.ofNat R ∧ 2 ^ μ ∣ R ∧ R + 2 ^ μ ≤ 2147483648 ∧ ((j.toInt < 0 ∧ R = 0) ∨ ((R : Int) * R ≤ j.toInt ∧ j.toInt < ((R + 2 ^ μ : Nat) : Int) * ((R + 2 ^ μ : Nat) : Int))) ∧ I' = I ∧ L' = L ∧ A' = A, 31, ⟨0, Nat.le_refl _, rfl, rfl, Nat.dvd_zero _, by decide, ?_, rfl, rfl, rfl⟩, ?_⟩
  · rcases Int.lt_or_le j.toInt 0 with w | w
    · exact Or.inl ⟨w, rfl⟩
    · refine Or.inr ⟨by simpa using w, ?_⟩
      have e : (((0 + 2 ^ 31 : Nat) : Int)) * ((0 + 2 ^ 31 : Nat) : Int) = 4611686018427387904 := by decide
      rw [e]; exact hj
  rintro μ C hC I1 L1 A1 _ _ ⟨R, hμ, rfl, rfl, hdv, hR, hcase, rfl, rfl, rfl⟩
  have hpw : 0 < 2 ^ μ := Nat.pow_pos (by decide)
  have hRi : (Int64.ofNat R).toInt = (R : Int) := jofN (by omega)
  have hRR : (Int64.ofNat R * Int64.ofNat R).toInt = (R : Int) * R := by
    rw [jmulB (m := 2147483648) (n := 2147483648) (by rw [hRi]; omega) (by rw [hRi]; omega) (by decide), hRi]
  refine ⟨fun z => ?_, fun z v1 e1 => ?_⟩
  · rw [tp_lt0 (by omega)] at z
    subst z
    have key : Int64.ofNat R * Int64.ofNat R = j ↔ Sq j.toInt := by
      constructor
      · intro h
        exact ⟨R, by rw [← h, hRR]⟩
      · rintro ⟨k, hk⟩
        apply jext
        rw [hRR]
        rcases hcase with ⟨h1, h2⟩ | ⟨h1, h2⟩
        · exfalso
          have : 0 ≤ k * k := by
            rcases Int.le_total 0 k with q | q
            · exact Int.mul_nonneg q q
            · exact Int.mul_nonneg_of_nonpos_of_nonpos q q
          omega
        · have hab : k * k = ((k.natAbs : Nat) : Int) * ((k.natAbs : Nat) : Int) := by
            rw [← Int.natCast_mul, ← Int.natAbs_mul]
            have : 0 ≤ k * k := by
              rcases Int.le_total 0 k with q | q
              · exact Int.mul_nonneg q q
              · exact Int.mul_nonneg_of_nonpos_of_nonpos q q
            omega
          rw [← hk, hab] at h1 h2 ⊢
          generalize k.natAbs = m at *
          have h3 : R ≤ m := by
            rcases Nat.lt_or_ge m R with q | q
            · exfalso
              have : (m + 1) * (m + 1) ≤ R * R := Nat.mul_le_mul q q
              have h5 : m * m < R * R := by
                have : (m + 1) * (m + 1) = m * m + 2 * m + 1 := by grind
                omega
              have h6 : ((m * m : Nat) : Int) < ((R * R : Nat) : Int) := by omega
              rw [Int.natCast_mul, Int.natCast_mul] at h6
              omega
            · exact q
          have h4 : m ≤ R := by
            rcases Nat.lt_or_ge R m with q | q
            · exfalso
              have : (R + 1) * (R + 1) ≤ m * m := Nat.mul_le_mul q q
              have h6 : (((R + 1) * (R + 1) : Nat) : Int) ≤ ((m * m : Nat) : Int) := by omega
              rw [Int.natCast_mul, Int.natCast_mul] at h6
              rw [Nat.pow_zero] at h2
              omega
            · exact q
          rw [show R = m by omega]
    exact ⟨fun w => ⟨Or.inl ⟨rfl, key.mp w⟩, rfl, rfl, rfl⟩, fun w => ⟨Or.inr ⟨rfl, fun q => w (key.mpr q)⟩, rfl, rfl, rfl⟩⟩
  · rw [tp_lt0 (by omega)] at z
    obtain ⟨b, rfl⟩ : ∃ b, μ = b + 1 := ⟨μ - 1, by omega⟩
    have e2 : 2 ^ (b + 1) = 2 ^ b + 2 ^ b := by rw [Nat.pow_succ]; omega
    have hor : R ||| 2 ^ b = R + 2 ^ b := by
      obtain ⟨t, ht⟩ := hdv
      rw [ht]
      exact (Nat.two_pow_add_eq_or_of_lt (i := b + 1) (b := 2 ^ b) (by omega) t).symm
    rw [tp_s, jshl b (by omega), jor, hor] at e1
    have hv1 : v1.toInt = ((R + 2 ^ b : Nat) : Int) := by rw [e1]; exact jofN (by omega)
    have hvv : (v1 * v1).toInt = ((R + 2 ^ b : Nat) : Int) * ((R + 2 ^ b : Nat) : Int) := by
      rw [jmulB (m := 2147483648) (n := 2147483648) (by rw [hv1]; omega) (by rw [hv1]; omega) (by decide), hv1]
    have hdv1 : 2 ^ b ∣ R := Nat.dvd_trans (Nat.pow_dvd_pow 2 (by omega)) hdv
    refine ⟨fun w v2 ev2 => ?_, fun w v3 ev3 => ?_⟩
    · rw [jlt, hvv] at w
      refine hC b _ _ _ _ _ (by omega) ⟨R, by omega, by rw [ev2, tp_s, ldec (by omega)], rfl, hdv1, by omega, ?_, rfl, rfl, rfl⟩
      rcases hcase with h | ⟨h1, h2⟩
      · exact Or.inl h
      · exact Or.inr ⟨h1, w⟩
    · rw [jlt, hvv] at w
      refine hC b _ _ _ _ _ (by omega) ⟨R + 2 ^ b, by omega, by rw [ev3, tp_s, ldec (by omega)], e1, Nat.dvd_add hdv1 (Nat.dvd_refl _), by omega, ?_, rfl, rfl, rfl⟩
      rcases hcase with ⟨h1, h2⟩ | ⟨h1, h2⟩
      · exfalso
        have : (0 : Int) ≤ ((R + 2 ^ b : Nat) : Int) * ((R + 2 ^ b : Nat) : Int) := Int.mul_nonneg (by omega) (by omega)
        omega
      · refine Or.inr ⟨by omega, ?_⟩
        rw [show R + 2 ^ b + 2 ^ b = R + 2 ^ (b + 1) by omega]; exact h2
end
