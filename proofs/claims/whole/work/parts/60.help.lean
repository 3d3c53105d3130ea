/-! NUMBERS OF JAVA, and loops -/
section
theorem jadd {a b : Int64} (h1 : -9223372036854775808 ≤ a.toInt + b.toInt) (h2 : a.toInt + b.toInt < 9223372036854775808) : (a + b).toInt = a.toInt + b.toInt := by
  rw [Int64.toInt_add]; exact Int.bmod_eq_of_le (by omega) (by omega)
theorem jsub {a b : Int64} (h1 : -9223372036854775808 ≤ a.toInt - b.toInt) (h2 : a.toInt - b.toInt < 9223372036854775808) : (a - b).toInt = a.toInt - b.toInt := by
  rw [Int64.toInt_sub]; exact Int.bmod_eq_of_le (by omega) (by omega)
theorem jmul {a b : Int64} (h1 : -9223372036854775808 ≤ a.toInt * b.toInt) (h2 : a.toInt * b.toInt < 9223372036854775808) : (a * b).toInt = a.toInt * b.toInt := by
  rw [Int64.toInt_mul]; exact Int.bmod_eq_of_le (by omega) (by omega)
theorem jneg {a : Int64} (h1 : -9223372036854775808 < a.toInt) : (-a).toInt = -a.toInt := by
  have := Int64.toInt_lt a
  rw [Int64.toInt_neg]; exact Int.bmod_eq_of_le (by omega) (by omega)
theorem tdiv_le (a b : Int) : (a.tdiv b).natAbs ≤ a.natAbs := by
  rw [Int.natAbs_tdiv]; exact Nat.div_le_self _ _
theorem jdiv {a b : Int64} (h1 : -9223372036854775808 < a.toInt) : (a / b).toInt = a.toInt.tdiv b.toInt := by
  have := Int64.toInt_lt a
  have := tdiv_le a.toInt b.toInt
  rw [Int64.toInt_div]; exact Int.bmod_eq_of_le (by omega) (by omega)
theorem mul_ab {a b : Int} {m n : Nat} (h1 : a.natAbs ≤ m) (h2 : b.natAbs ≤ n) : (a * b).natAbs ≤ m * n := by
  rw [Int.natAbs_mul]; exact Nat.mul_le_mul h1 h2
theorem jmulB {a b : Int64} {m n : Nat} (h1 : a.toInt.natAbs ≤ m) (h2 : b.toInt.natAbs ≤ n) (h : m * n < 9223372036854775808) : (a * b).toInt = a.toInt * b.toInt := by
  have := mul_ab h1 h2
  exact jmul (by omega) (by omega)
/-- Java's remainder -/
theorem jrem (a b : Int64) (h1 : -9223372036854775808 < a.toInt) : (a - a / b * b).toInt = a.toInt.tmod b.toInt := by
  have h2 := Int64.toInt_lt a
  have e := Int.mul_tdiv_add_tmod a.toInt b.toInt
  have q : (a / b).toInt = a.toInt.tdiv b.toInt := jdiv h1
  have e2 : a.toInt.tdiv b.toInt * b.toInt = a.toInt - a.toInt.tmod b.toInt := by
    rw [Int.mul_comm]; omega
  have e3 : (a.toInt.tmod b.toInt).natAbs ≤ a.toInt.natAbs := by rw [Int.natAbs_tmod]; exact Nat.mod_le _ _
  have hs : (0 ≤ a.toInt → 0 ≤ a.toInt.tmod b.toInt) ∧ (a.toInt ≤ 0 → a.toInt.tmod b.toInt ≤ 0) := by
    refine ⟨fun h => Int.tmod_nonneg _ h, fun h => ?_⟩
    have := Int.tmod_nonneg b.toInt (show 0 ≤ -a.toInt by omega)
    rw [Int.neg_tmod] at this
    omega
  have q2 : (a / b * b).toInt = a.toInt - a.toInt.tmod b.toInt := by
    rw [jmul (by rw [q, e2]; omega) (by rw [q, e2]; omega), q, e2]
  rw [jsub (by rw [q2]; omega) (by rw [q2]; omega), q2]
  omega
theorem tI {k : Nat} (h : k < 2147483648) : (nI k).toInt = (k : Int) := nI_toInt h
theorem tm1 {d : Nat} (h : d < 2147483648) : (nI d - 1).toInt = (d : Int) - 1 := by
  rw [Int32.toInt_sub, tI h]; exact Int.bmod_eq_of_le (by rw [show (1 : Int32).toInt = 1 from rfl]; omega) (by rw [show (1 : Int32).toInt = 1 from rfl]; omega)
theorem iadd {a b : Int32} (h1 : -2147483648 ≤ a.toInt + b.toInt) (h2 : a.toInt + b.toInt < 2147483648) : (a + b).toInt = a.toInt + b.toInt := by
  rw [Int32.toInt_add]; exact Int.bmod_eq_of_le (by omega) (by omega)
theorem isub {a b : Int32} (h1 : -2147483648 ≤ a.toInt - b.toInt) (h2 : a.toInt - b.toInt < 2147483648) : (a - b).toInt = a.toInt - b.toInt := by
  rw [Int32.toInt_sub]; exact Int.bmod_eq_of_le (by omega) (by omega)
theorem iext {a b : Int32} (h : a.toInt = b.toInt) : a = b := Int32.toInt_inj.mp h
theorem jext {a b : Int64} (h : a.toInt = b.toInt) : a = b := Int64.toInt_inj.mp h
theorem ile {a b : Int32} : a ≤ b ↔ a.toInt ≤ b.toInt := Int32.le_iff_toInt_le
theorem ilt {a b : Int32} : a < b ↔ a.toInt < b.toInt := Int32.lt_iff_toInt_lt
theorem jle {a b : Int64} : a ≤ b ↔ a.toInt ≤ b.toInt := Int64.le_iff_toInt_le
theorem jlt {a b : Int64} : a < b ↔ a.toInt < b.toInt := Int64.lt_iff_toInt_lt
theorem j0 {a : Int64} : a = 0 ↔ a.toInt = 0 := by rw [← Int64.toInt_inj]; rfl
theorem ixn {k : Nat} (h : k < 2147483648) : ix (nI k) = k := nI_clamp h
theorem ix_of {a : Int32} {k : Nat} (h : a.toInt = (k : Int)) : ix a = k := by
  have : a = nI k := iext (by
    have := Int32.toInt_lt a
    rw [h, tI (by omega)])
  rw [this]; exact ixn (by have := Int32.toInt_lt a; omega)
theorem eqn {a : Int32} {k : Nat} (h : a.toInt = (k : Int)) : a = nI k := iext (by
    have := Int32.toInt_lt a
    rw [h, tI (by omega)])
theorem inOf {a : Int32} {k N : Nat} (h : a.toInt = (k : Int)) (hk : k < N) : vp_in a N := by
  intro q
  rcases q with q | q
  · rw [ilt, h] at q
    have : (0 : Int32).toInt = 0 := rfl
    omega
  · rw [show a.toNatClampNeg = k from ix_of h] at q
    omega
theorem sI (k : Nat) : nI k + 1 = nI (k + 1) := (nI_succ k).symm
/-- the length of a row's contents: the place behind the highest that is not 0 -/
def ln (f : Nat → Int64) : Nat → Nat
  | 0 => 0
  | k + 1 => if f k = 0 then ln f k else k + 1
theorem ln_le (f : Nat → Int64) : ∀ n, ln f n ≤ n
  | 0 => Nat.le_refl 0
  | n + 1 => by
    rw [ln]
    have := ln_le f n
    split <;> omega
theorem ln_out (f : Nat → Int64) : ∀ n k, ln f n ≤ k → k < n → f k = 0
  | 0, k, _, h => absurd h (Nat.not_lt_zero _)
  | n + 1, k, h1, h2 => by
    rw [ln] at h1
    by_cases e : f n = 0
    · rw [if_pos e] at h1
      by_cases q : k = n
      · rw [q]; exact e
      · exact ln_out f n k h1 (by omega)
    · rw [if_neg e] at h1
      omega
theorem ln_top (f : Nat → Int64) : ∀ n d, ln f n = d + 1 → f d ≠ 0
  | 0, d, h => by cases h
  | n + 1, d, h => by
    rw [ln] at h
    by_cases e : f n = 0
    · rw [if_pos e] at h
      exact ln_top f n d h
    · rw [if_neg e] at h
      have : d = n := by omega
      rw [this]; exact e
theorem ln_congr {f g : Nat → Int64} : ∀ n, (∀ k, k < n → (f k = 0 ↔ g k = 0)) → ln f n = ln g n
  | 0, _ => rfl
  | n + 1, h => by
    rw [ln, ln, ln_congr n (fun k hk => h k (by omega))]
    have := h n (by omega)
    by_cases e : f n = 0
    · rw [if_pos e, if_pos (this.mp e)]
    · rw [if_neg e, if_neg (fun q => e (this.mpr q))]
abbrev isRow (K : Cx) (r : Nat) : Prop := cxS K r = shX4 r ∧ cxS K (r + 1) = .inr (1, 13)
theorem isRow.ne {K : Cx} {r u : Nat} (h : isRow K r) (h' : isRow K u) : r ≠ u + 1 := fun e => by
  have q := h.1
  rw [e, h'.2] at q
  cases q
theorem isRow.ok {K : Cx} {r i : Nat} (h : isRow K r) (hi : i < 13) : aok (cxS K) (r + 1) 1 (nI i) := ⟨13, h.2, inOf (tI (by omega)) hi⟩
theorem isRow.ok' {K : Cx} {r i : Nat} {x : Int32} (h : isRow K r) (e : x.toInt = (i : Int)) (hi : i < 13) : aok (cxS K) (r + 1) 1 x := ⟨13, h.2, inOf e hi⟩
/-- a row's top, by its length -/
abbrev tpI (d : Nat) : Int32 := nI d - 1
theorem tp_lt {d i : Nat} (hd : d < 1000) (hi : i < 1000) : (tpI d < nI i) ↔ d ≤ i := by
  rw [ilt, tm1 (by omega), tI (by omega)]; omega
theorem tp_lt0 {d : Nat} (hd : d < 1000) : (tpI d < 0) ↔ d = 0 := by
  rw [ilt, tm1 (by omega), show (0 : Int32).toInt = 0 from rfl]; omega
theorem tp_0 : tpI 0 = -1 := by decide
theorem tp_s (d : Nat) : tpI (d + 1) = nI d := nI_pred d
end
