/-! RESIDUES: the inverse, the rest, Euclid -/
section
variable {K : Cx} {I : TI} {L : TL} {A : TA}
theorem mul_le_of {a b c : Nat} (h : a * b ≤ c) (hb : 1 ≤ b) : a ≤ c := Nat.le_trans (Nat.le_mul_of_pos_right a hb) h
/-- inverse(a): a times it is 1 modulo p, if a and p have no common divisor -/
theorem s_inverse {o a p : Nat} {x : Int64} (ho : cxS K o = shX3 o) (hp : mdl L o = p) (hp1 : 1 < p) (hp2 : p < 67108864) (hx : x.toInt = a) (ha : 0 < a) (hap : a < p) (hg : Nat.gcd p a = 1) : ConL K yX3_inverse wsX3_inverse 0 0 I L A [.ref o, .long x] (fun v I' L' A' => (0 ≤ v.toInt ∧ v.toInt ≤ p ∧ (p : Int) ∣ a * v.toInt - 1) ∧ I' = I ∧ L' = L ∧ A' = A) := by
  apply w_X3_inverse
  unfold wp_X3_inverse
  refine ⟨ho, fun v8 e8 => ?_⟩
  have h8 : v8.toInt = p := by rw [e8]; exact hp
  unfold wp_X3_inverse_17
  -- high = u, low = v; before = -s B, now = s N; B v + N u = p
  refine ⟨fun μ I' L' A' x3 x5 x7 x9 x11 => ∃ (i u v B N : Nat) (s : Int), i + μ = 100 ∧ x11 = nI i ∧ (s = 1 ∨ s = -1) ∧ x3.toInt = u ∧ x5.toInt = v ∧ x7.toInt = -(s * B) ∧ x9.toInt = s * N ∧ B * v + N * u = p ∧ v < u ∧ u ≤ p ∧ Nat.gcd u v = 1 ∧ B ≤ p ∧ u * v * 2 ^ i < 2 ^ 52 ∧ (p : Int) ∣ -(s * B) * a - u ∧ (p : Int) ∣ s * N * a - v ∧ I' = I ∧ L' = L ∧ A' = A, 100, ?_, ?_⟩
  · refine ⟨0, p, a, 0, 1, 1, rfl, rfl, Or.inl rfl, h8, hx, rfl, by decide, by omega, hap, Nat.le_refl p, hg, by omega, ?_, ?_, ?_, rfl, rfl, rfl⟩
    · have : p * a ≤ 67108864 * 67108863 := Nat.mul_le_mul (by omega) (by omega)
      rw [Nat.pow_zero, Nat.mul_one]
      exact Nat.lt_of_le_of_lt this (by decide)
    · exact ⟨-1, by simp⟩
    · exact ⟨0, by simp⟩
  rintro μ C hC I' L' A' x3 x5 x7 x9 _ ⟨i, u, v, B, N, s, hi, rfl, hs, h3, h5, h7, h9, hBN, hvu, hup, hgc, hBp, hpot, hd1, hd2, hI, hL, hA⟩
  have hfin : v = 0 → wp_X3_inverse_77 K o x I' L' A' x7 (fun v I' L' A' => (0 ≤ v.toInt ∧ v.toInt ≤ p ∧ (p : Int) ∣ a * v.toInt - 1) ∧ I' = I ∧ L' = L ∧ A' = A) := by
    intro hv
    have hu1 : u = 1 := by rw [hv, Nat.gcd_zero_right] at hgc; exact hgc
    rw [hu1] at hd1
    have hd : (p : Int) ∣ a * x7.toInt - 1 := by rw [h7, Int.mul_comm]; exact hd1
    unfold wp_X3_inverse_77
    refine ⟨fun z => ⟨⟨?_, ?_, hd⟩, hI, hL, hA⟩, fun z => ⟨ho, ⟨?_, hI, hL, hA⟩⟩⟩
    · rw [jle] at z; exact z
    · rw [h7]; rcases hs with rfl | rfl <;> omega
    · rw [jle, show (0 : Int64).toInt = 0 from rfl] at z
      have hm : (L' o 0).toInt = p := by rw [hL]; exact hp
      have hge : -(p : Int) ≤ x7.toInt := by rw [h7]; rcases hs with rfl | rfl <;> omega
      have e : (x7 + L' o 0).toInt = x7.toInt + p := by rw [jadd (by rw [hm]; omega) (by rw [hm]; omega), hm]
      rw [e]
      refine ⟨by omega, by omega, ?_⟩
      rw [Int.mul_add]
      have := Int.dvd_add hd (⟨a, Int.mul_comm _ _⟩ : (p : Int) ∣ a * p)
      rw [show (a : Int) * x7.toInt - 1 + a * p = a * x7.toInt + a * p - 1 by omega] at this
      exact this
  refine ⟨fun q => hfin ?_, fun q => ⟨fun q2 => hfin ?_, fun q2 => ?_⟩⟩
  · rw [ile, li100, tI (by omega)] at q
    have : i = 100 := by omega
    subst this
    rcases Nat.eq_zero_or_pos v with z | z
    · exact z
    · have h1 : 1 * 1 ≤ u * v := Nat.mul_le_mul (by omega) z
      have h2 : 1 * 2 ^ 100 ≤ u * v * 2 ^ 100 := Nat.mul_le_mul_right _ h1
      have h3 : (2 : Nat) ^ 52 < 2 ^ 100 := by decide
      omega
  · rw [j0, h5] at q2; omega
  · have hv0 : 0 < v := by
      rcases Nat.eq_zero_or_pos v with z | z
      · exact absurd (j0.mpr (by rw [h5, z]; rfl)) q2
      · exact z
    rw [ile, li100, tI (by omega)] at q
    refine ⟨q2, fun v3 e3 v4 e4 v5 e5 v6 e6 => ?_⟩
    have hq3 : v3.toInt = ((u / v : Nat) : Int) := by rw [e3, jdiv (by omega), h3, h5]; exact Int.ofNat_tdiv u v
    have hdm := Nat.div_add_mod u v
    have hml := Nat.mod_lt u hv0
    have hNle : N ≤ p := by
      have : N * u ≤ p := by omega
      exact mul_le_of this (by omega)
    have hqu : u / v ≤ u := Nat.div_le_self u v
    have hq1 : (v3 * x5).toInt = ((v * (u / v) : Nat) : Int) := by
      rw [jmulB (m := 67108864) (n := 67108864) (by rw [hq3, Int.natAbs_natCast]; exact Nat.le_trans hqu (by omega)) (by rw [h5]; omega) (by decide), hq3, h5, Int.natCast_mul, Int.mul_comm]
    have h4 : v4.toInt = ((u % v : Nat) : Int) := by
      rw [e4, jsub (by rw [hq1, h3]; omega) (by rw [hq1, h3]; omega), hq1, h3]; omega
    have hq9 : (v3 * x9).toInt = (u / v : Nat) * (s * N) := by
      rw [jmulB (m := 67108864) (n := 67108864) (by rw [hq3, Int.natAbs_natCast]; exact Nat.le_trans hqu (by omega)) (by rw [h9]; rcases hs with rfl | rfl <;> omega) (by decide), hq3, h9]
    -- the next pair
    have hid : N * (u % v) + (B + u / v * N) * v = p := by
      have e1 : (B + u / v * N) * v = B * v + N * (v * (u / v)) := by rw [Nat.add_mul]; congr 1; rw [Nat.mul_comm (u / v) N, Nat.mul_assoc, Nat.mul_comm (u / v) v]
      have e2 : N * u = N * (v * (u / v)) + N * (u % v) := by rw [← Nat.mul_add, hdm]
      omega
    have hBle : B + u / v * N ≤ p := by
      have : (B + u / v * N) * v ≤ p := by omega
      exact mul_le_of this hv0
    have hab : ((u / v : Nat) : Int) * (s * N) = s * ((u / v * N : Nat) : Int) := by rw [Int.natCast_mul]; rw [Int.mul_left_comm]
    have h5' : v5.toInt = -(s * ((B + u / v * N : Nat) : Int)) := by
      rw [e5, jsub (by rw [hq9, h7, hab]; rcases hs with rfl | rfl <;> omega) (by rw [hq9, h7, hab]; rcases hs with rfl | rfl <;> omega), hq9, h7, hab]
      rw [show ((B + u / v * N : Nat) : Int) = (B : Int) + ((u / v * N : Nat) : Int) by omega, Int.mul_add]; omega
    refine hC (μ - 1) _ _ _ _ _ _ _ _ (by omega) ⟨i + 1, v, u % v, N, B + u / v * N, -s, by omega, by rw [e6, sI], by rcases hs with rfl | rfl <;> simp, h5, h4, by rw [h9]; rw [Int.neg_mul, Int.neg_neg], by rw [h5', Int.neg_mul], hid, hml, by omega, ?_, hNle, ?_, ?_, ?_, hI, hL, hA⟩
    · rw [← hgc, Nat.gcd_comm u v, Nat.gcd_rec v u, Nat.gcd_comm]
    · have h1 : 2 * (u % v) ≤ u := by
        have h2 : 1 ≤ u / v := (Nat.one_le_div_iff hv0).mpr (by omega)
        have h3 : v * 1 ≤ v * (u / v) := Nat.mul_le_mul_left v h2
        omega
      have h2 : v * (2 * (u % v)) ≤ v * u := Nat.mul_le_mul_left v h1
      have h3 : v * (u % v) * 2 ^ (i + 1) ≤ u * v * 2 ^ i := by
        rw [Nat.pow_succ', ← Nat.mul_assoc]
        refine Nat.mul_le_mul_right _ ?_
        rw [Nat.mul_comm u v, Nat.mul_assoc, Nat.mul_comm (u % v) 2]
        exact h2
      omega
    · have e0 : -(-s * (N : Int)) = s * N := by rw [Int.neg_mul, Int.neg_neg]
      rw [e0]; exact hd2
    · -- s N' a - rest, from the two before
      have e1 : (p : Int) ∣ (-(s * B) * a - u) - ((u / v : Nat) : Int) * (s * N * a - v) := Int.dvd_sub hd1 (Int.dvd_mul_of_dvd_right hd2)
      have e2 : (-(s * B) * a - (u : Int)) - ((u / v : Nat) : Int) * (s * N * a - v) = -s * ((B + u / v * N : Nat) : Int) * a - ((u % v : Nat) : Int) := by
        have e3 : (u : Int) = (v : Int) * ((u / v : Nat) : Int) + ((u % v : Nat) : Int) := by rw [← Int.natCast_mul]; omega
        rw [show ((B + u / v * N : Nat) : Int) = (B : Int) + ((u / v : Nat) : Int) * (N : Int) by rw [← Int.natCast_mul]; omega]
        generalize ((u / v : Nat) : Int) = w at e3 ⊢
        generalize ((u % v : Nat) : Int) = z at e3 ⊢
        rw [e3]
        grind
      rw [e2] at e1
      exact e1
/-- a prime and a smaller number -/
theorem pr_gcd {p a : Nat} (hp : Pr (p : Int)) (ha : 0 < a) (hap : a < p) : Nat.gcd p a = 1 := by
  obtain ⟨h, hh⟩ := Nat.gcd_dvd_left p a
  have hpd : (p : Int) ∣ (Nat.gcd p a : Int) * (h : Int) := ⟨1, by rw [← Int.natCast_mul, ← hh]; simp⟩
  have hle := Nat.le_of_dvd ha (Nat.gcd_dvd_right p a)
  have hg0 : 0 < Nat.gcd p a := Nat.gcd_pos_of_pos_right p ha
  rcases hp.2 _ _ hpd with q | q
  · have := Nat.le_of_dvd hg0 (Int.natCast_dvd_natCast.mp q)
    omega
  · have hd := Int.natCast_dvd_natCast.mp q
    obtain ⟨c, hc⟩ := hd
    have hp0 := hp.1
    have hpp : p * 1 = p * (Nat.gcd p a * c) := by
      have e1 : p = Nat.gcd p a * (p * c) := by rw [← hc]; exact hh
      rw [Nat.mul_one, Nat.mul_left_comm]; exact e1
    have h2 := Nat.eq_of_mul_eq_mul_left (by omega) hpp
    exact Nat.eq_one_of_mul_eq_one_right h2.symm
end
