/-! SQUARES of whole numbers; roots of the resolvent -/
section
def Sq (n : Int) : Prop := ∃ k : Int, k * k = n
theorem cop_sq {x y m : Nat} (hg : Nat.gcd x y = 1) (h : x * y = m * m) : ∃ k, k * k = x := by
  refine ⟨Nat.gcd x m, ?_⟩
  have h1 : Nat.gcd (x ^ 2) (m ^ 2) = Nat.gcd x m ^ 2 := Nat.pow_gcd_pow
  rw [← Nat.pow_two, ← h1, Nat.pow_two, Nat.pow_two, ← h, Nat.gcd_mul_left, hg, Nat.mul_one]
/-- two by what they share are squares if and only if the product is one -/
theorem sq_gcd {x y : Nat} (hx : 0 < x) (hy : 0 < y) : ((∃ k, k * k = x / Nat.gcd x y) ∧ ∃ k, k * k = y / Nat.gcd x y) ↔ ∃ k, k * k = x * y := by
  have hg : 0 < Nat.gcd x y := Nat.gcd_pos_of_pos_left _ hx
  obtain ⟨u, hu⟩ := Nat.gcd_dvd_left x y
  obtain ⟨v, hv⟩ := Nat.gcd_dvd_right x y
  have hc : Nat.gcd u v = 1 := by
    have h1 : Nat.gcd x y * Nat.gcd u v = Nat.gcd x y * 1 := by
      rw [← Nat.gcd_mul_left, ← hu, ← hv, Nat.mul_one]
    exact Nat.eq_of_mul_eq_mul_left hg h1
  generalize Nat.gcd x y = g at *
  subst hu
  subst hv
  rw [Nat.mul_div_cancel_left _ hg, Nat.mul_div_cancel_left _ hg]
  constructor
  · rintro ⟨⟨s, hs⟩, t, ht⟩
    refine ⟨g * s * t, ?_⟩
    rw [← hs, ← ht]
    grind
  · rintro ⟨k, hk⟩
    have h1 : g ^ 2 ∣ k ^ 2 := ⟨u * v, by rw [Nat.pow_two, hk]; grind⟩
    obtain ⟨m, hm⟩ := (Nat.pow_dvd_pow_iff (by decide)).mp h1
    have h2 : u * v = m * m := by
      have : g * g * (u * v) = g * g * (m * m) := by
        have e : g * u * (g * v) = g * g * (u * v) := by grind
        rw [← e, ← hk, hm]; grind
      exact Nat.eq_of_mul_eq_mul_left (Nat.mul_pos hg hg) this
    exact ⟨cop_sq hc h2, cop_sq (x := v) (y := u) (by rw [Nat.gcd_comm]; exact hc) (by rw [Nat.mul_comm]; exact h2)⟩
/-- a factor that is a square does not matter -/
theorem sq_mul2 {a n : Nat} (ha : 0 < a) : (∃ k, k * k = a * a * n) ↔ ∃ k, k * k = n := by
  constructor
  · rintro ⟨k, hk⟩
    have h1 : a ^ 2 ∣ k ^ 2 := ⟨n, by rw [Nat.pow_two, hk, Nat.pow_two]⟩
    obtain ⟨m, hm⟩ := (Nat.pow_dvd_pow_iff (by decide)).mp h1
    refine ⟨m, ?_⟩
    have : a * a * (m * m) = a * a * n := by rw [← hk, hm]; grind
    exact Nat.eq_of_mul_eq_mul_left (Nat.mul_pos ha ha) this
  · rintro ⟨k, hk⟩
    exact ⟨a * k, by rw [← hk]; grind⟩
/-- the discriminant of y^3 + B y^2 + C y + D -/
def dsc (B C D : Int) : Int := B * B * C * C - 4 * 1 * C * C * C - 4 * B * B * B * D - 27 * 1 * 1 * D * D + 18 * 1 * B * C * D
theorem dsc_ne {B C D r : Int} (hr : ((r + B) * r + C) * r + D = 0) (hd : 3 * r * r + 2 * B * r + C ≠ 0) (hu : ∀ y : Int, ((y + B) * y + C) * y + D = 0 → y = r) : dsc B C D ≠ 0 := fun h => by
  obtain ⟨u, hu'⟩ : ∃ u, u = B + r := ⟨_, rfl⟩
  obtain ⟨w, hw⟩ : ∃ w, w = C + r * u := ⟨_, rfl⟩
  have eB : B = u - r := by omega
  have eC : C = w - r * u := by omega
  have eD : D = -(r * w) := by rw [hw, hu']; grind
  subst eB
  subst eC
  subst eD
  have e1 : dsc (u - r) (w - r * u) (-(r * w)) = (u * u - 4 * w) * ((r * r + u * r + w) * (r * r + u * r + w)) := by unfold dsc; grind
  have e2 : 3 * r * r + 2 * (u - r) * r + (w - r * u) = r * r + u * r + w := by grind
  rw [e1] at h
  rw [e2] at hd
  rcases Int.mul_eq_zero.mp h with z | z
  · have hev : u % 2 = 0 := by
      rcases (show u % 2 = 0 ∨ u % 2 = 1 by omega) with q | q
      · exact q
      · exfalso
        obtain ⟨t, ht⟩ : ∃ t, u = 2 * t + 1 := ⟨u / 2, by omega⟩
        rw [ht] at z
        have : (2 * t + 1) * (2 * t + 1) = 4 * (t * t + t) + 1 := by grind
        omega
    obtain ⟨t, ht⟩ : ∃ t, u = 2 * t := ⟨u / 2, by omega⟩
    subst ht
    have hw2 : w = t * t := by
      have : 2 * t * (2 * t) = 4 * (t * t) := by grind
      omega
    have := hu (-t) (by rw [hw2]; grind)
    apply hd
    rw [← this, hw2]; grind
  · rcases Int.mul_eq_zero.mp z with z | z <;> exact hd z
/-- a root of the stretched cubic is a multiple -/
theorem stretch {a B C D z : Int} (ha : a ≠ 0) (h : ((z + a * B) * z + a * a * C) * z + a * a * a * D = 0) : ∃ y, z = a * y ∧ ((y + B) * y + C) * y + D = 0 := by
  have hd : a ∣ z := by
    have hg0 : 0 < Int.gcd z a := Int.gcd_pos_of_ne_zero_right _ ha
    obtain ⟨u, hu⟩ : ∃ u, z = (Int.gcd z a : Int) * u := Int.gcd_dvd_left z a
    obtain ⟨v, hv⟩ : ∃ v, a = (Int.gcd z a : Int) * v := Int.gcd_dvd_right z a
    have hc : Int.gcd u v = 1 := by
      have h1 : Int.gcd ((Int.gcd z a : Int) * u) ((Int.gcd z a : Int) * v) = Int.gcd z a * Int.gcd u v := by
        rw [Int.gcd_mul_left, Int.natAbs_natCast]
      rw [← hu, ← hv] at h1
      have h2 : Int.gcd z a * Int.gcd u v = Int.gcd z a * 1 := by omega
      exact Nat.eq_of_mul_eq_mul_left hg0 h2
    generalize Int.gcd z a = g at *
    have hg : (g : Int) ≠ 0 := by omega
    rw [hu, hv] at h
    have h3 : (g : Int) * g * g * (u * (u * u) + v * (B * u * u + v * C * u + v * v * D)) = 0 := by
      rw [← h]; grind
    have h4 : u * (u * u) + v * (B * u * u + v * C * u + v * v * D) = 0 := by
      rcases Int.mul_eq_zero.mp h3 with w | w
      · rcases Int.mul_eq_zero.mp w with w | w
        · rcases Int.mul_eq_zero.mp w with w | w <;> exact absurd w hg
        · exact absurd w hg
      · exact w
    have h5 : v ∣ u * (u * u) := ⟨-(B * u * u + v * C * u + v * v * D), by rw [Int.mul_neg]; omega⟩
    have hcv : Int.gcd v u = 1 := by rw [Int.gcd_comm]; exact hc
    have hcop : ∀ x : Int, v ∣ u * x → v ∣ x := fun x hx => by
      have h8 := Int.natAbs_dvd_natAbs.mpr hx
      rw [Int.natAbs_mul] at h8
      exact Int.natAbs_dvd_natAbs.mp (Nat.Coprime.dvd_of_dvd_mul_left hcv h8)
    have h6 : v ∣ u * u := hcop _ h5
    have h7 : v ∣ u := hcop _ h6
    rw [hu, hv]
    exact Int.mul_dvd_mul_left _ h7
  obtain ⟨y, hy⟩ := hd
  refine ⟨y, hy, ?_⟩
  rw [hy] at h
  have h1 : a * a * a * (((y + B) * y + C) * y + D) = 0 := by rw [← h]; grind
  rcases Int.mul_eq_zero.mp h1 with w | w
  · rcases Int.mul_eq_zero.mp w with w | w
    · rcases Int.mul_eq_zero.mp w with w | w <;> exact absurd w ha
    · exact absurd w ha
  · exact w
/-- roots are small -/
theorem root_bd {B C D y : Int} (hB : -300 ≤ B ∧ B ≤ 300) (hC : -450000 ≤ C ∧ C ≤ 450000) (hD : -162000000 ≤ D ∧ D ≤ 162000000) (h : ((y + B) * y + C) * y + D = 0) : -1342 ≤ y ∧ y ≤ 1342 := by
  have key : ∀ t : Int, 1343 ≤ t → ∀ b c d : Int, -300 ≤ b → -450000 ≤ c → -162000000 ≤ d → 0 < ((t + b) * t + c) * t + d := fun t ht b c d hb hc hd => by
    have h1 : 1043 * t ≤ (t + b) * t := Int.mul_le_mul_of_nonneg_right (by omega) (by omega)
    have h2 : 900000 ≤ (t + b) * t + c := by omega
    have h3 : 900000 * t ≤ ((t + b) * t + c) * t := Int.mul_le_mul_of_nonneg_right h2 (by omega)
    omega
  constructor
  · rcases Int.lt_or_le y (-1342) with q | q
    · have := key (-y) (by omega) (-B) C (-D) (by omega) (by omega) (by omega)
      have e : ((-y + -B) * -y + C) * -y + -D = -(((y + B) * y + C) * y + D) := by grind
      rw [e] at this
      omega
    · exact q
  · rcases Int.lt_or_le 1342 y with q | q
    · have := key y (by omega) B C D (by omega) (by omega) (by omega)
      omega
    · exact q
end
