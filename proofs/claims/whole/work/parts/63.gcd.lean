/-! NUMBERS' GREATEST DIVISOR; a row's measure -/
section
variable {K : Cx} {I : TI} {L : TL} {A : TA}
theorem absJ_i {x : Int64} (h : -9223372036854775808 < x.toInt) : (absJ x).toInt = (x.toInt.natAbs : Int) := by
  unfold absJ
  by_cases q : 0 < x
  · rw [if_pos q]
    rw [jlt, show (0 : Int64).toInt = 0 from rfl] at q
    omega
  · rw [if_neg q, jneg h]
    rw [jlt, show (0 : Int64).toInt = 0 from rfl] at q
    omega
theorem li100 : (100 : Int32).toInt = 100 := by decide
theorem tmod_nat {a b : Int64} {x y : Nat} (ha : a.toInt = x) (hb : b.toInt = y) : a.toInt.tmod b.toInt = ((x % y : Nat) : Int) := by
  rw [ha, hb]; exact Int.ofNat_tmod x y
/-- of numbers of 49 bits -/
theorem s_gcd {a b : Int64} (ha : a.toInt.natAbs < 562949953421312) (hb : b.toInt.natAbs < 562949953421312) : ConL K yX6_greatestDivisor wsX6_greatestDivisor 1 40 I L A [.long a, .long b] (fun v I' L' A' => v.toInt = (Nat.gcd a.toInt.natAbs b.toInt.natAbs : Int) ∧ I' = I ∧ L' = L ∧ A' = A) := by
  apply w_X6_greatestDivisor
  unfold wp_X6_greatestDivisor wp_X6_greatestDivisor_15
  intro v4 e4 v5 e5
  have h4 : v4.toInt = (a.toInt.natAbs : Int) := by rw [e4]; exact absJ_i (by omega)
  have h5 : v5.toInt = (b.toInt.natAbs : Int) := by rw [e5]; exact absJ_i (by omega)
  refine ⟨fun μ I' L' A' x y n => ∃ (i u v : Nat), i + μ = 100 ∧ n = nI i ∧ x.toInt = u ∧ y.toInt = v ∧ Nat.gcd u v = Nat.gcd a.toInt.natAbs b.toInt.natAbs ∧ u < 562949953421312 ∧ v < 562949953421312 ∧ (i = 0 ∨ (v < u ∧ u * v * 2 ^ (i - 1) < 2 ^ 98)) ∧ I' = I ∧ L' = L ∧ A' = A, 100, ⟨0, _, _, rfl, rfl, h4, h5, rfl, ha, hb, Or.inl rfl, rfl, rfl, rfl⟩, ?_⟩
  rintro μ C hC I' L' A' x y _ ⟨i, u, v, hi, rfl, hx, hy, hg, hu, hv, hp, hI, hL, hA⟩
  have done : v = 0 → x.toInt = (Nat.gcd a.toInt.natAbs b.toInt.natAbs : Int) := fun z => by
    rw [hx, ← hg, z, Nat.gcd_zero_right]
  refine ⟨fun q => ?_, fun q => ⟨fun q2 => ?_, fun q2 => ?_⟩⟩
  · rw [ile, li100, tI (by omega)] at q
    have hi100 : i = 100 := by omega
    subst hi100
    refine ⟨done ?_, hI, hL, hA⟩
    rcases hp with hp | hp
    · cases hp
    · rcases Nat.eq_zero_or_pos v with z | z
      · exact z
      · have h1 : 1 ≤ u * v := Nat.mul_pos (by omega) z
        have h2 : 1 * 2 ^ (100 - 1) ≤ u * v * 2 ^ (100 - 1) := Nat.mul_le_mul_right _ h1
        have h3 : (2 : Nat) ^ 98 < 2 ^ 99 := by decide
        omega
  · have : v = 0 := by rw [j0, hy] at q2; omega
    exact ⟨done this, hI, hL, hA⟩
  · have hv0 : v ≠ 0 := fun z => q2 (by rw [j0, hy, z]; rfl)
    rw [ile, li100, tI (by omega)] at q
    refine ⟨q2, fun v2 e2 v3 e3 => ?_⟩
    have hr : v2.toInt = ((u % v : Nat) : Int) := by rw [e2, jrem x y (by omega)]; exact tmod_nat hx hy
    have hlt := Nat.mod_lt u (show v > 0 by omega)
    refine hC (μ - 1) _ _ _ _ _ _ (by omega) ⟨i + 1, v, u % v, by omega, by rw [e3, sI], hy, hr, ?_, hv, by omega, Or.inr ⟨hlt, ?_⟩, hI, hL, hA⟩
    · rw [← hg, Nat.gcd_comm u v, Nat.gcd_rec v u, Nat.gcd_comm]
    · rw [show i + 1 - 1 = i by omega]
      rcases hp with hp | hp
      · subst hp
        have h1 : v * (u % v) < 562949953421312 * 562949953421312 := Nat.mul_lt_mul_of_lt_of_le hv (by omega) (by omega)
        rw [Nat.pow_zero, Nat.mul_one]
        exact Nat.lt_of_lt_of_le h1 (by decide)
      · have h1 : 2 * (u % v) ≤ u := by
          have := Nat.div_add_mod u v
          have h2 : 1 ≤ u / v := (Nat.one_le_div_iff (by omega)).mpr (by omega)
          have h3 : v * 1 ≤ v * (u / v) := Nat.mul_le_mul_left v h2
          omega
        have h2 : v * (2 * (u % v)) ≤ v * u := Nat.mul_le_mul_left v h1
        have h3 : v * (u % v) * 2 ^ i ≤ u * v * 2 ^ (i - 1) := by
          rcases Nat.eq_zero_or_pos i with z | z
          · subst z
            have h4 : v * (u % v) ≤ u * v := by rw [Nat.mul_comm u v]; exact Nat.mul_le_mul_left v (by omega)
            exact Nat.mul_le_mul_right _ h4
          · have e : (2 : Nat) ^ i = 2 * 2 ^ (i - 1) := by rw [← Nat.pow_succ', show (i - 1).succ = i by omega]
            rw [e, ← Nat.mul_assoc]
            refine Nat.mul_le_mul_right _ ?_
            rw [Nat.mul_comm u v, Nat.mul_assoc, Nat.mul_comm (u % v) 2]
            exact h2
        omega
/-- of any numbers: it ends -/
theorem s_gcd0 {a b : Int64} : ConL K yX6_greatestDivisor wsX6_greatestDivisor 1 40 I L A [.long a, .long b] (fun _ I' L' A' => I' = I ∧ L' = L ∧ A' = A) := by
  apply w_X6_greatestDivisor
  unfold wp_X6_greatestDivisor wp_X6_greatestDivisor_15
  intro v4 e4 v5 e5
  refine ⟨fun μ I' L' A' x y n => ∃ i : Nat, i + μ = 100 ∧ n = nI i ∧ I' = I ∧ L' = L ∧ A' = A, 100, ⟨0, rfl, rfl, rfl, rfl, rfl⟩, ?_⟩
  rintro μ C hC I' L' A' x y _ ⟨i, hi, rfl, hI, hL, hA⟩
  refine ⟨fun q => ⟨hI, hL, hA⟩, fun q => ⟨fun q2 => ⟨hI, hL, hA⟩, fun q2 => ⟨q2, fun v2 e2 v3 e3 => ?_⟩⟩⟩
  rw [ile, li100, tI (by omega)] at q
  exact hC (μ - 1) _ _ _ _ _ _ (by omega) ⟨i + 1, by omega, by rw [e3, sI], hI, hL, hA⟩
/-- the greatest divisor of the first n -/
def gd (f : PP) : Nat → Nat
  | 0 => 0
  | n + 1 => Nat.gcd (gd f n) (f n).natAbs
theorem gd_dvd (f : PP) : ∀ n k, k < n → (gd f n : Int) ∣ f k
  | 0, k, h => absurd h (Nat.not_lt_zero _)
  | n + 1, k, h => by
    rw [gd]
    by_cases e : k = n
    · rw [e, ← Int.natAbs_dvd_natAbs, Int.natAbs_natCast]
      exact Nat.gcd_dvd_right _ _
    · exact Int.dvd_trans (Int.natCast_dvd_natCast.mpr (Nat.gcd_dvd_left _ _)) (gd_dvd f n k (by omega))
theorem dvd_gd (f : PP) (m : Nat) : ∀ n, (∀ k, k < n → (m : Int) ∣ f k) → m ∣ gd f n
  | 0, _ => Nat.dvd_zero m
  | n + 1, h => by
    rw [gd]
    refine Nat.dvd_gcd (dvd_gd f m n (fun k hk => h k (by omega))) ?_
    have := h n (by omega)
    rw [← Int.natAbs_dvd_natAbs, Int.natAbs_natCast] at this
    exact this
theorem gd_lt (f : PP) (B : Nat) (hB : 0 < B) : ∀ n, (∀ k, k < n → (f k).natAbs < B) → gd f n < B
  | 0, _ => hB
  | n + 1, h => by
    rw [gd]
    have h1 := gd_lt f B hB n (fun k hk => h k (by omega))
    have h2 := h n (by omega)
    rcases Nat.eq_zero_or_pos (gd f n) with z | z
    · rw [z, Nat.gcd_zero_left]; exact h2
    · exact Nat.lt_of_le_of_lt (Nat.gcd_le_left _ z) h1
theorem gd_all (f : PP) {n : Nat} (h : dl f n) : ∀ m, n ≤ m → gd f m = gd f n
  | 0, hm => by rw [show n = 0 by omega]
  | m + 1, hm => by
    by_cases e : n = m + 1
    · rw [e]
    · rw [gd, gd_all f h m (by omega), h m (by omega)]
      simp
/-- the measure with the sign of the lead -/
def sgd (f : PP) (d : Nat) : Int := if f (d - 1) < 0 ∧ d ≠ 0 then -(gd f d : Int) else gd f d
theorem s_signedMeasure {r d : Nat} (h : isRow K r) (st : St I L r d) (hb : ∀ k, (pl L r k).natAbs < 562949953421312) : ConL K yX4_signedMeasure wsX4_signedMeasure 2 70 I L A [.ref r] (fun v I' L' A' => v.toInt = sgd (pl L r) d ∧ I' = I ∧ L' = L ∧ A' = A) := by
  have hd := st.2.1
  apply w_X4_signedMeasure
  unfold wp_X4_signedMeasure wp_X4_signedMeasure_4
  refine ⟨fun μ I' L' A' x n => ∃ i : Nat, i + μ = d ∧ n = nI i ∧ x.toInt = (gd (pl L r) i : Int) ∧ I' = I ∧ L' = L ∧ A' = A, d, ⟨0, by omega, rfl, rfl, rfl, rfl, rfl⟩, ?_⟩
  rintro μ C hC I' L' A' x _ ⟨i, hi, rfl, hx, rfl, rfl, hA⟩
  have hlt := gd_lt (pl L' r) 562949953421312 (by decide) i (fun k _ => hb k)
  refine ⟨h.1, fun q => ⟨_, s_lead h st.1 hd, ?_⟩, fun q => ⟨h.ok ?_, _, s_gcd (a := x) (by rw [hx]; omega) (by rw [ixn (by omega), ← pl_lt (r := r) (by rw [st.1, tp_lt (by omega) (by omega)] at q; omega)]; exact hb i), ?_⟩⟩
  · rw [st.1, tp_lt (by omega) (by omega)] at q
    have : i = d := by omega
    subst this
    rintro v I4 L5 A6 ⟨hv, rfl, rfl, rfl⟩
    have hvp : v.toInt = if i = 0 then 0 else pl L5 r (i - 1) := by
      rw [hv]
      by_cases z : i = 0
      · rw [if_pos z, if_pos z]; rfl
      · rw [if_neg z, if_neg z, pl_lt (by omega)]
    refine ⟨fun z => ⟨?_, rfl, rfl, hA⟩, fun z => ⟨?_, rfl, rfl, hA⟩⟩
    · rw [jle, hvp, show (0 : Int64).toInt = 0 from rfl] at z
      rw [hx, sgd, if_neg (fun t => by rw [if_neg t.2] at z; omega)]
    · rw [jle, hvp, show (0 : Int64).toInt = 0 from rfl] at z
      have i0 : i ≠ 0 := fun t => by rw [if_pos t] at z; omega
      rw [if_neg i0] at z
      rw [jneg (by rw [hx]; omega), hx, sgd, if_pos ⟨by omega, i0⟩]
  · rw [st.1, tp_lt (by omega) (by omega)] at q
    omega
  · rw [st.1, tp_lt (by omega) (by omega)] at q
    rintro v I4 L5 A6 ⟨hv, rfl, rfl, rfl⟩ v15 e15
    refine hC (μ - 1) _ _ _ _ _ (by omega) ⟨i + 1, by omega, by rw [e15, sI], ?_, rfl, rfl, hA⟩
    rw [hv, gd, hx, Int.natAbs_natCast, ixn (by omega), pl_lt (by omega)]
end
