/-! CUBICS: where they rise and fall -/
section
def cb (B C D z : Int) : Int := ((z + B) * z + C) * z + D
theorem sq_nn (x : Int) : 0 ≤ x * x := by
  rcases Int.le_total 0 x with q | q
  · exact Int.mul_nonneg q q
  · exact Int.mul_nonneg_of_nonpos_of_nonpos q q
theorem cb_diff (B C D u v : Int) : 9 * (cb B C D v - cb B C D u) = (v - u) * ((3 * u + B) * (3 * u + B) + (3 * u + B) * (3 * v + B) + (3 * v + B) * (3 * v + B) - 3 * (B * B - 3 * C)) := by
  unfold cb; grind
theorem cb_up {B C D u v : Int} (h : u < v) (hq : 3 * (B * B - 3 * C) < (3 * u + B) * (3 * u + B) + (3 * u + B) * (3 * v + B) + (3 * v + B) * (3 * v + B)) : cb B C D u < cb B C D v := by
  have h1 := cb_diff B C D u v
  have h2 := Int.mul_pos (show 0 < v - u by omega) (show 0 < (3 * u + B) * (3 * u + B) + (3 * u + B) * (3 * v + B) + (3 * v + B) * (3 * v + B) - 3 * (B * B - 3 * C) by omega)
  omega
theorem cb_dn {B C D u v : Int} (h : u < v) (hq : (3 * u + B) * (3 * u + B) + (3 * u + B) * (3 * v + B) + (3 * v + B) * (3 * v + B) < 3 * (B * B - 3 * C)) : cb B C D v < cb B C D u := by
  have h1 := cb_diff B C D u v
  have h2 := Int.mul_pos (show 0 < v - u by omega) (show 0 < 3 * (B * B - 3 * C) - ((3 * u + B) * (3 * u + B) + (3 * u + B) * (3 * v + B) + (3 * v + B) * (3 * v + B)) by omega)
  have e : (v - u) * (3 * (B * B - 3 * C) - ((3 * u + B) * (3 * u + B) + (3 * u + B) * (3 * v + B) + (3 * v + B) * (3 * v + B))) = -((v - u) * ((3 * u + B) * (3 * u + B) + (3 * u + B) * (3 * v + B) + (3 * v + B) * (3 * v + B) - 3 * (B * B - 3 * C))) := by grind
  omega
theorem q_all {x y d : Int} (h : x < y) (hd : d ≤ 0) : 3 * d < x * x + x * y + y * y := by
  have h1 := sq_nn (2 * x + y)
  have h2 := sq_nn y
  have e : (2 * x + y) * (2 * x + y) + 3 * (y * y) = 4 * (x * x + x * y + y * y) := by grind
  rcases Int.lt_trichotomy y 0 with w | w | w
  · have := Int.mul_pos_of_neg_of_neg w w
    omega
  · subst w
    have := Int.mul_pos_of_neg_of_neg (show x < 0 by omega) (show x < 0 by omega)
    omega
  · have := Int.mul_pos w w
    omega
theorem q_pos {x y s d : Int} (hs : 0 ≤ s) (hx : s + 1 ≤ x) (h : x < y) (hd : d < (s + 1) * (s + 1)) : 3 * d < x * x + x * y + y * y := by
  have h1 := Int.mul_le_mul hx hx (by omega) (by omega)
  have h2 := Int.mul_le_mul hx (show s + 1 ≤ y by omega) (by omega) (by omega)
  have h3 := Int.mul_le_mul (show s + 1 ≤ y by omega) (show s + 1 ≤ y by omega) (by omega) (by omega)
  omega
theorem q_neg {x y s d : Int} (hs : 0 ≤ s) (hy : y ≤ -(s + 1)) (h : x < y) (hd : d < (s + 1) * (s + 1)) : 3 * d < x * x + x * y + y * y := by
  have h1 := q_pos (x := -y) (y := -x) hs (by omega) (by omega) hd
  have e : -y * -y + -y * -x + -x * -x = x * x + x * y + y * y := by grind
  omega
theorem q_mid {x y s d : Int} (hx : -s ≤ x) (hy : y ≤ s) (h : x < y) (hd : s * s ≤ d) : x * x + x * y + y * y < 3 * d := by
  have key : ∀ x y : Int, 0 ≤ x → x < y → y ≤ s → x * x + x * y + y * y < 3 * (s * s) := fun x y h0 h1 h2 => by
    have a1 := Int.mul_le_mul h2 h2 (show 0 ≤ y by omega) (show 0 ≤ s by omega)
    have a2 := Int.mul_le_mul (show x ≤ y by omega) (Int.le_refl y) (by omega) (by omega)
    have a3 := Int.mul_le_mul (show x ≤ y by omega) (show x ≤ y by omega) h0 (by omega)
    have a4 : x * y < y * y := Int.mul_lt_mul_of_pos_right h1 (by omega)
    omega
  rcases Int.lt_or_le x 0 with w | w
  · rcases Int.lt_or_le y 0 with w2 | w2
    · have := key (-y) (-x) (by omega) (by omega) (by omega)
      have e : -y * -y + -y * -x + -x * -x = x * x + x * y + y * y := by grind
      omega
    · have a1 := Int.mul_le_mul hy hy (show 0 ≤ y by omega) (show 0 ≤ s by omega)
      have a2 := Int.mul_le_mul (show -x ≤ s by omega) (show -x ≤ s by omega) (show 0 ≤ -x by omega) (show 0 ≤ s by omega)
      have a3 := Int.mul_nonpos_of_nonpos_of_nonneg (show x ≤ 0 by omega) w2
      have e : -x * -x = x * x := by grind
      have a4 := Int.mul_pos (show 0 < s by omega) (show 0 < s by omega)
      omega
  · have := key x y w h hy
    omega
/-- the stretched resolvent's discriminant, as the other side writes it -/
def dsQ (a b c d e : Int) : Int := (((((((256 * a * a * a * e * e * e - 192 * a * a * b * d * e * e - 128 * a * a * c * c * e * e + 144 * a * a * c * d * d * e) - 27 * a * a * d * d * d * d + 144 * a * b * b * c * e * e - 6 * a * b * b * d * d * e - 80 * a * b * c * c * d * e) + 18 * a * b * c * d * d * d + 16 * a * c * c * c * c * e - 4 * a * c * c * c * d * d - 27 * b * b * b * b * e * e) + 18 * b * b * b * c * d * e - 4 * b * b * b * d * d * d - 4 * b * b * c * c * c * e + b * b * c * c * d * d))))
def dsI' (a b c d : Int) : Int := b * b * c * c - 4 * a * c * c * c - 4 * b * b * b * d - 27 * a * a * d * d + 18 * a * b * c * d
theorem dsQ_eq (a b c d e : Int) : dsQ a b c d e = dsI' 1 (-c) (b * d - 4 * a * e) ((4 * a * c - b * b) * e - a * d * d) := by
  unfold dsQ dsI'; grind
/-- squares and what lies beside -/
def sqB (x y : Int) : Prop := x = 0 ∨ Sq x ∨ ((x < 0 ↔ y < 0) ∧ Sq ((x.natAbs / Nat.gcd x.natAbs y.natAbs : Nat) : Int) ∧ Sq ((y.natAbs / Nat.gcd x.natAbs y.natAbs : Nat) : Int))
theorem sq_nat {n : Nat} : Sq (n : Int) ↔ ∃ k : Nat, k * k = n := by
  constructor
  · rintro ⟨k, hk⟩
    refine ⟨k.natAbs, ?_⟩
    have := congrArg Int.natAbs hk
    rw [Int.natAbs_mul, Int.natAbs_natCast] at this
    exact this
  · rintro ⟨k, hk⟩
    exact ⟨k, by rw [← Int.natCast_mul, hk]⟩
/-- a square factor of the first does not matter -/
theorem beside_mul {a x y : Int} (ha : a ≠ 0) (hx : x ≠ 0) (hy : y ≠ 0) : ((a * a * x < 0 ↔ y < 0) ∧ Sq (((a * a * x).natAbs / Nat.gcd (a * a * x).natAbs y.natAbs : Nat) : Int) ∧ Sq ((y.natAbs / Nat.gcd (a * a * x).natAbs y.natAbs : Nat) : Int)) ↔ ((x < 0 ↔ y < 0) ∧ Sq ((x.natAbs / Nat.gcd x.natAbs y.natAbs : Nat) : Int) ∧ Sq ((y.natAbs / Nat.gcd x.natAbs y.natAbs : Nat) : Int)) := by
  have haa : 0 < a * a := by
    rcases Int.lt_trichotomy a 0 with w | w | w
    · exact Int.mul_pos_of_neg_of_neg w w
    · exact absurd w ha
    · exact Int.mul_pos w w
  have hsg : a * a * x < 0 ↔ x < 0 := by
    constructor
    · intro h
      rcases Int.lt_or_le x 0 with w | w
      · exact w
      · have := Int.mul_nonneg (show 0 ≤ a * a by omega) w
        omega
    · intro h; exact Int.mul_neg_of_pos_of_neg haa h
  have hxp : 0 < x.natAbs := Int.natAbs_pos.mpr hx
  have hyp : 0 < y.natAbs := Int.natAbs_pos.mpr hy
  have hap : 0 < a.natAbs := Int.natAbs_pos.mpr ha
  have e : (a * a * x).natAbs = a.natAbs * a.natAbs * x.natAbs := by rw [Int.natAbs_mul, Int.natAbs_mul]
  rw [hsg, sq_nat, sq_nat, sq_nat, sq_nat, e]
  have h1 := sq_gcd (x := a.natAbs * a.natAbs * x.natAbs) (y := y.natAbs) (Nat.mul_pos (Nat.mul_pos hap hap) hxp) hyp
  have h2 := sq_gcd hxp hyp
  rw [h1, h2, Nat.mul_assoc (a.natAbs * a.natAbs), sq_mul2 hap]
end
