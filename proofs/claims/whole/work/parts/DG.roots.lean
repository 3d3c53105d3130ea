/-! IRREDUCIBLE QUARTICS: what a root of the resolvent can be -/
section
theorem q2_mul1 {a b c : Int} (k : Int) : (letI := pfR; kP k * q2P a b c) = q2P (k * a) (k * b) (k * c) := by
  unfold q2P
  simp only [← kP_mul]
  letI := pfR
  grind
theorem no_sqA {f : PF} (hf : Irr f.1) (h4 : dgI f.1 4) {r k : Int} (hr : rsv (f.1 4) (f.1 3) (f.1 2) (f.1 1) (f.1 0) r = 0) (hk : k ≠ 0) : rsA (f.1 4) (f.1 3) (f.1 2) r ≠ k * k := fun hA => by
  have hF := ferrari h4.2 (r := r)
  have hid := rsv_id (f.1 4) (f.1 3) (f.1 2) (f.1 1) (f.1 0) r
  rw [hr, hA] at hid
  rw [hA] at hF
  have ha : f.1 4 ≠ 0 := h4.1
  generalize rsP (f.1 4) (f.1 3) (f.1 1) r = p at *
  generalize rsC (f.1 4) (f.1 0) r = C at *
  refine irr4 (c := k * k * (4 * f.1 4)) hf h4 (q2P_dl (2 * f.1 4 * k) (f.1 3 * k - k * k) (r * k - p)) (q2P_dl (2 * f.1 4 * k) (f.1 3 * k + k * k) (r * k + p)) (q2P_ne (Or.inl (Int.mul_ne_zero (by omega) hk))) (q2P_ne (Or.inl (Int.mul_ne_zero (by omega) hk))) ?_
  have e1 : (letI := pfR; kP (k * k * (4 * f.1 4)) * f) = (letI := pfR; kP k * kP k * (kP (4 * f.1 4) * f)) := by
    rw [← kP_mul, ← kP_mul]
    letI := pfR
    grind
  rw [e1, hF]
  have hp : p * p = k * k * C := by omega
  have hp' : (letI := pfR; kP p * kP p) = (letI := pfR; kP k * kP k * kP C) := by rw [kP_mul, kP_mul, kP_mul, hp]
  unfold q2P
  simp only [← kP_mul, ← kP_sub, ← kP_add]
  have k2 : kP 2 = (letI := pfR; (2 : PF)) := rfl
  rw [k2]
  letI := pfR
  grind
theorem sq_dvd_sq {m p : Int} (h : m * m ∣ p * p) : m ∣ p := by
  have h1 : m.natAbs ^ 2 ∣ p.natAbs ^ 2 := by
    have := Int.natAbs_dvd_natAbs.mpr h
    rw [Int.natAbs_mul, Int.natAbs_mul] at this
    rw [Nat.pow_two, Nat.pow_two]; exact this
  exact Int.natAbs_dvd_natAbs.mp ((Nat.pow_dvd_pow_iff (by decide)).mp h1)
theorem no_0 {f : PF} (hf : Irr f.1) (h4 : dgI f.1 4) {r m : Int} (hr : rsv (f.1 4) (f.1 3) (f.1 2) (f.1 1) (f.1 0) r = 0) (hA : rsA (f.1 4) (f.1 3) (f.1 2) r = 0) : rsC (f.1 4) (f.1 0) r ≠ m * m := fun hC => by
  have hF := ferrari h4.2 (r := r)
  have hid := rsv_id (f.1 4) (f.1 3) (f.1 2) (f.1 1) (f.1 0) r
  rw [hr, hA] at hid
  have ha : f.1 4 ≠ 0 := h4.1
  have hp : rsP (f.1 4) (f.1 3) (f.1 1) r = 0 := by
    have h1 : rsP (f.1 4) (f.1 3) (f.1 1) r * rsP (f.1 4) (f.1 3) (f.1 1) r = 0 := by omega
    rcases Int.mul_eq_zero.mp h1 with w | w <;> exact w
  rw [hA, hC, hp] at hF
  refine irr4 (c := 4 * f.1 4) hf h4 (q2P_dl (2 * f.1 4) (f.1 3) (r - m)) (q2P_dl (2 * f.1 4) (f.1 3) (r + m)) (q2P_ne (Or.inl (by omega))) (q2P_ne (Or.inl (by omega))) ?_
  rw [hF]
  unfold q2P
  simp only [← kP_mul, ← kP_sub, ← kP_add]
  have k2 : kP 2 = (letI := pfR; (2 : PF)) := rfl
  have k0 : kP 0 = (letI := pfR; (0 : PF)) := rfl
  rw [k2, k0]
  letI := pfR
  grind
theorem no_sqC {f : PF} (hf : Irr f.1) (h4 : dgI f.1 4) {r m : Int} (hr : rsv (f.1 4) (f.1 3) (f.1 2) (f.1 1) (f.1 0) r = 0) (hm : m ≠ 0) : rsC (f.1 4) (f.1 0) r ≠ m * m := fun hC => by
  by_cases hA : rsA (f.1 4) (f.1 3) (f.1 2) r = 0
  · exact no_0 hf h4 hr hA hC
  · have hid := rsv_id (f.1 4) (f.1 3) (f.1 2) (f.1 1) (f.1 0) r
    rw [hr, hC] at hid
    generalize rsP (f.1 4) (f.1 3) (f.1 1) r = p at *
    have h1 : m * m ∣ p * p := ⟨rsA (f.1 4) (f.1 3) (f.1 2) r, by have := Int.mul_comm (m * m) (rsA (f.1 4) (f.1 3) (f.1 2) r); omega⟩
    obtain ⟨t, ht⟩ := sq_dvd_sq h1
    have h2 : m * m * (t * t) = m * m * rsA (f.1 4) (f.1 3) (f.1 2) r := by
      have : p * p = rsA (f.1 4) (f.1 3) (f.1 2) r * (m * m) := by omega
      rw [ht] at this
      rw [Int.mul_comm (m * m) (rsA _ _ _ _), ← this]
      grind
    have h3 := Int.eq_of_mul_eq_mul_left (Int.mul_ne_zero hm hm) h2
    exact no_sqA hf h4 hr (k := t) (fun z => hA (by rw [← h3, z]; rfl)) h3.symm
/-- a root is single -/
theorem no_dbl {f : PF} (hf : Irr f.1) (h4 : dgI f.1 4) {r : Int} (hr : rsv (f.1 4) (f.1 3) (f.1 2) (f.1 1) (f.1 0) r = 0) : 3 * r * r - 2 * f.1 2 * r + (f.1 3 * f.1 1 - 4 * f.1 4 * f.1 0) ≠ 0 := fun hd => by
  have hF := ferrari h4.2 (r := r)
  have hid := rsv_id (f.1 4) (f.1 3) (f.1 2) (f.1 1) (f.1 0) r
  rw [hr] at hid
  have ha : f.1 4 ≠ 0 := h4.1
  have hid2 : rsP (f.1 4) (f.1 3) (f.1 1) r * f.1 3 - 2 * f.1 4 * rsC (f.1 4) (f.1 0) r - r * rsA (f.1 4) (f.1 3) (f.1 2) r = -2 * f.1 4 * (3 * r * r - 2 * f.1 2 * r + (f.1 3 * f.1 1 - 4 * f.1 4 * f.1 0)) := by
    unfold rsP rsC rsA
    grind
  rw [hd] at hid2
  by_cases hA : rsA (f.1 4) (f.1 3) (f.1 2) r = 0
  · refine no_0 hf h4 hr hA (m := 0) ?_
    have hp : rsP (f.1 4) (f.1 3) (f.1 1) r = 0 := by
      rw [hA] at hid
      have h1 : rsP (f.1 4) (f.1 3) (f.1 1) r * rsP (f.1 4) (f.1 3) (f.1 1) r = 0 := by omega
      rcases Int.mul_eq_zero.mp h1 with w | w <;> exact w
    rw [hA, hp] at hid2
    have h2 : 2 * f.1 4 * rsC (f.1 4) (f.1 0) r = 0 := by omega
    rcases Int.mul_eq_zero.mp h2 with w | w
    · omega
    · rw [w]; rfl
  · generalize rsP (f.1 4) (f.1 3) (f.1 1) r = p at *
    generalize rsC (f.1 4) (f.1 0) r = C at *
    generalize rsA (f.1 4) (f.1 3) (f.1 2) r = A at *
    have e0 : p * p = A * C := by omega
    have e1 : p * f.1 3 = 2 * f.1 4 * C + r * A := by omega
    refine irr4 (c := A * A * (A * A) * (4 * f.1 4)) hf h4 (q2P_dl (A * A) (2 * A * p) (p * p)) (q2P_dl (4 * f.1 4 * f.1 4 * (A * A)) (4 * f.1 4 * A * (f.1 3 * A - 2 * f.1 4 * p)) ((f.1 3 * A - 2 * f.1 4 * p) * (f.1 3 * A - 2 * f.1 4 * p) - A * A * A)) (q2P_ne (Or.inl (Int.mul_ne_zero hA hA))) (q2P_ne (Or.inl (Int.mul_ne_zero (Int.mul_ne_zero (by omega) ha) (Int.mul_ne_zero hA hA)))) ?_
    have e2 : (letI := pfR; kP (A * A * (A * A) * (4 * f.1 4)) * f) = (letI := pfR; kP A * kP A * (kP A * kP A) * (kP (4 * f.1 4) * f)) := by
      rw [← kP_mul, ← kP_mul, ← kP_mul]
      letI := pfR
      grind
    rw [e2, hF]
    have h0 : (letI := pfR; kP p * kP p) = (letI := pfR; kP A * kP C) := by rw [kP_mul, kP_mul, e0]
    have h1 : (letI := pfR; kP p * kP (f.1 3)) = (letI := pfR; kP 2 * kP (f.1 4) * kP C + kP r * kP A) := by rw [kP_mul, kP_mul, kP_mul, kP_mul, kP_add, e1]
    unfold q2P
    simp only [← kP_mul, ← kP_sub]
    have k2 : kP 2 = (letI := pfR; (2 : PF)) := rfl
    have k4 : kP 4 = (letI := pfR; (4 : PF)) := rfl
    rw [k2] at h1
    rw [k2, k4]
    generalize kP p = P at *
    generalize kP A = U at *
    generalize kP C = V at *
    generalize kP r = W at *
    generalize kP (f.1 4) = X4 at *
    generalize kP (f.1 3) = X3 at *
    generalize xP = x
    letI := pfR
    grind
end
