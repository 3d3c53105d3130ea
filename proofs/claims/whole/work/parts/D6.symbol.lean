/-! THE SYMBOL, sums over all residues, the second moment -/
section
def chi (p c : Nat) (z : Int) : Int := if (p : Int) ∣ z then 0 else if (p : Int) ∣ z ^ c - 1 then 1 else -1
theorem chi_0 {p c : Nat} {z : Int} (h : (p : Int) ∣ z) : chi p c z = 0 := if_pos h
theorem chi_1 {p c : Nat} {z : Int} (h : ¬ (p : Int) ∣ z) (h1 : (p : Int) ∣ z ^ c - 1) : chi p c z = 1 := by unfold chi; rw [if_neg h, if_pos h1]
theorem chi_n {p c : Nat} {z : Int} (h : ¬ (p : Int) ∣ z) (h1 : ¬ (p : Int) ∣ z ^ c - 1) : chi p c z = -1 := by unfold chi; rw [if_neg h, if_neg h1]
theorem chi_cs (p c : Nat) (z : Int) : chi p c z = 0 ∨ chi p c z = 1 ∨ chi p c z = -1 := by
  unfold chi
  by_cases h : (p : Int) ∣ z
  · rw [if_pos h]; exact Or.inl rfl
  · rw [if_neg h]
    by_cases h1 : (p : Int) ∣ z ^ c - 1
    · rw [if_pos h1]; exact Or.inr (Or.inl rfl)
    · rw [if_neg h1]; exact Or.inr (Or.inr rfl)
theorem chi_eq0 {p c : Nat} {z : Int} (h : chi p c z = 0) : (p : Int) ∣ z := Classical.byContradiction fun w => by
  by_cases h1 : (p : Int) ∣ z ^ c - 1
  · rw [chi_1 w h1] at h; omega
  · rw [chi_n w h1] at h; omega
theorem chi_eq1 {p c : Nat} {z : Int} (h : chi p c z = 1) : ¬ (p : Int) ∣ z ∧ (p : Int) ∣ z ^ c - 1 := by
  have h0 : ¬ (p : Int) ∣ z := fun w => by rw [chi_0 w] at h; omega
  refine ⟨h0, Classical.byContradiction fun w => ?_⟩
  rw [chi_n h0 w] at h; omega
theorem chi_pm {p c : Nat} (hp : Pr (p : Int)) (hc : 2 * c + 1 = p) {z : Int} (h : ¬ (p : Int) ∣ z) : (p : Int) ∣ z ^ c - 1 ∨ (p : Int) ∣ z ^ c + 1 := by
  have h1 := flt hp z
  have e : z ^ p = z ^ c * z ^ c * z := by rw [← hc, show 2 * c + 1 = c + c + 1 by omega, Int.pow_succ, Int.pow_add]
  rw [e] at h1
  have e2 : z ^ c * z ^ c * z - z = z * ((z ^ c - 1) * (z ^ c + 1)) := by grind
  rw [e2] at h1
  rcases hp.2 _ _ h1 with w | w
  · exact absurd w h
  · exact hp.2 _ _ w
theorem chi_mul {p c : Nat} (hp : Pr (p : Int)) (hc : 2 * c + 1 = p) (h2 : 2 < p) (x y : Int) : chi p c (x * y) = chi p c x * chi p c y := by
  have hi := idl_int (p : Int)
  by_cases hx : (p : Int) ∣ x
  · rw [chi_0 hx, chi_0 (Int.dvd_mul_of_dvd_left hx), Int.zero_mul]
  by_cases hy : (p : Int) ∣ y
  · rw [chi_0 hy, chi_0 (Int.dvd_mul_of_dvd_right hy), Int.mul_zero]
  have hxy : ¬ (p : Int) ∣ x * y := fun w => by rcases hp.2 _ _ w with w | w; exact hx w; exact hy w
  have hn2 : ¬ (p : Int) ∣ 2 := fun w => by have := Int.le_of_dvd (by decide) w; omega
  have e : (x * y) ^ c = x ^ c * y ^ c := Int.mul_pow
  have ne : ∀ {z : Int}, (p : Int) ∣ z + 1 → ¬ (p : Int) ∣ z - 1 := fun h w => hn2 (by
    have := Int.dvd_sub h w
    rwa [show ∀ z : Int, z + 1 - (z - 1) = 2 from fun z => by omega] at this)
  rcases chi_pm hp hc hx with a | a <;> rcases chi_pm hp hc hy with b | b
  · rw [chi_1 hx a, chi_1 hy b, chi_1 hxy]; rfl
    rw [e]
    have := Int.dvd_add (Int.dvd_mul_of_dvd_right (b := x ^ c) b) a
    rwa [show x ^ c * (y ^ c - 1) + (x ^ c - 1) = x ^ c * y ^ c - 1 by grind] at this
  · rw [chi_1 hx a, chi_n hy (ne b), chi_n hxy]; rfl
    apply ne
    rw [e]
    have := Int.dvd_sub (Int.dvd_mul_of_dvd_right (b := x ^ c) b) a
    rwa [show x ^ c * (y ^ c + 1) - (x ^ c - 1) = x ^ c * y ^ c + 1 by grind] at this
  · rw [chi_n hx (ne a), chi_1 hy b, chi_n hxy]; rfl
    apply ne
    rw [e]
    have := Int.dvd_add (Int.dvd_mul_of_dvd_right (b := x ^ c) b) a
    rwa [show x ^ c * (y ^ c - 1) + (x ^ c + 1) = x ^ c * y ^ c + 1 by grind] at this
  · rw [chi_n hx (ne a), chi_n hy (ne b), chi_1 hxy]; rfl
    rw [e]
    have := Int.dvd_sub (Int.dvd_mul_of_dvd_right (b := x ^ c) b) a
    rwa [show x ^ c * (y ^ c + 1) - (x ^ c + 1) = x ^ c * y ^ c - 1 by grind] at this
theorem dvd_of_cg {p x y : Int} (h : p ∣ x - y) (hy : p ∣ y) : p ∣ x := by
  have := Int.dvd_add h hy
  rwa [Int.sub_add_cancel] at this
theorem chi_cg {p c : Nat} {x y : Int} (h : (p : Int) ∣ x - y) : chi p c x = chi p c y := by
  have h' : (p : Int) ∣ y - x := by have := Int.dvd_neg.mpr h; rwa [Int.neg_sub] at this
  have hi := idl_int (p : Int)
  have h1 : (p : Int) ∣ x ^ c - y ^ c := hi.pow2 h c
  have h1' : (p : Int) ∣ y ^ c - x ^ c := hi.pow2 h' c
  by_cases hx : (p : Int) ∣ x
  · rw [chi_0 hx, chi_0 (dvd_of_cg h' hx)]
  · have hy : ¬ (p : Int) ∣ y := fun w => hx (dvd_of_cg h w)
    by_cases a : (p : Int) ∣ x ^ c - 1
    · rw [chi_1 hx a, chi_1 hy]
      have := Int.dvd_add h1' a
      rwa [show y ^ c - x ^ c + (x ^ c - 1) = y ^ c - 1 by omega] at this
    · rw [chi_n hx a, chi_n hy]
      intro w
      apply a
      have := Int.dvd_add h1 w
      rwa [show x ^ c - y ^ c + (y ^ c - 1) = x ^ c - 1 by omega] at this
/-- sums of ints -/
def sgI (f : Nat → Int) : Nat → Int
  | 0 => 0
  | n + 1 => sgI f n + f n
theorem sgI_le {f g : Nat → Int} : ∀ n, (∀ i, i < n → f i ≤ g i) → sgI f n ≤ sgI g n
  | 0, _ => Int.le_refl _
  | n + 1, h => Int.add_le_add (sgI_le n (fun i hi => h i (by omega))) (h n (by omega))
theorem sgI_congr {f g : Nat → Int} : ∀ n, (∀ i, i < n → f i = g i) → sgI f n = sgI g n
  | 0, _ => rfl
  | n + 1, h => by simp only [sgI]; rw [sgI_congr n (fun i hi => h i (by omega)), h n (by omega)]
theorem sgI_add (f g : Nat → Int) : ∀ n, sgI (fun i => f i + g i) n = sgI f n + sgI g n
  | 0 => rfl
  | n + 1 => by simp only [sgI]; rw [sgI_add f g n]; omega
theorem sgI_c (c : Int) (f : Nat → Int) : ∀ n, sgI (fun i => c * f i) n = c * sgI f n
  | 0 => by simp [sgI]
  | n + 1 => by simp only [sgI]; rw [sgI_c c f n, Int.mul_add]
theorem sgI_k (c : Int) : ∀ n : Nat, sgI (fun _ => c) n = n * c
  | 0 => by simp [sgI]
  | n + 1 => by simp only [sgI]; rw [sgI_k c n]; grind
theorem sgI_swap (f : Nat → Nat → Int) (m : Nat) : ∀ n, sgI (fun i => sgI (fun j => f i j) m) n = sgI (fun j => sgI (fun i => f i j) n) m
  | 0 => by
    show (0 : Int) = sgI (fun _ => 0) m
    rw [sgI_k]; simp
  | n + 1 => by
    simp only [sgI]
    rw [sgI_swap f m n, ← sgI_add]
theorem sgI_sq (f : Nat → Int) (n : Nat) : sgI f n * sgI f n = sgI (fun i => sgI (fun j => f i * f j) n) n := by
  have h : ∀ m, sgI (fun i => sgI (fun j => f i * f j) n) m = sgI f m * sgI f n := by
    intro m
    induction m with
    | zero => simp [sgI]
    | succ m ih => simp only [sgI]; rw [ih, sgI_c, Int.add_mul]
  rw [h]
theorem sgI_tr {f : Nat → Int} {p : Nat} (h : ∀ t, f (t + p) = f t) : ∀ i, sgI (fun t => f (t + i)) p = sgI f p := by
  have h1 : ∀ (g : Nat → Int) n, sgI (fun t => g (t + 1)) n + g 0 = sgI g n + g n := by
    intro g n
    induction n with
    | zero => simp [sgI]
    | succ n ih => simp only [sgI]; omega
  intro i
  induction i with
  | zero => rfl
  | succ i ih =>
    have h2 : sgI (fun t => f (t + 1 + i)) p + f (0 + i) = sgI (fun t => f (t + i)) p + f (p + i) := h1 (fun t => f (t + i)) p
    have e : (fun t => f (t + 1 + i)) = (fun t => f (t + (i + 1))) := funext fun t => by rw [show t + 1 + i = t + (i + 1) by omega]
    rw [e, ih] at h2
    have e2 : f (p + i) = f (0 + i) := by rw [show p + i = i + p by omega, h, Nat.zero_add]
    omega
theorem sgI_split (f : Nat → Int) (m : Nat) : ∀ n, sgI f (m + n) = sgI f m + sgI (fun j => f (m + j)) n
  | 0 => by simp [sgI]
  | n + 1 => by rw [← Nat.add_assoc]; simp only [sgI]; rw [sgI_split f m n]; omega
theorem sgI_nn {f : Nat → Int} : ∀ n, (∀ i, i < n → 0 ≤ f i) → 0 ≤ sgI f n := fun n h => by
  have := sgI_le (f := fun _ => 0) n h
  rw [sgI_k] at this
  omega
/-- how many; and a list of them -/
def cn (P : Nat → Bool) : Nat → Nat
  | 0 => 0
  | n + 1 => cn P n + if P n then 1 else 0
theorem cn_list (P : Nat → Bool) : ∀ n, ∃ t : Nat → Nat, (∀ i, i < cn P n → t i < n ∧ P (t i) = true) ∧ ∀ i j, i < j → j < cn P n → t i < t j
  | 0 => ⟨fun _ => 0, fun i hi => absurd hi (Nat.not_lt_zero _), fun i j _ hj => absurd hj (Nat.not_lt_zero _)⟩
  | n + 1 => by
    obtain ⟨t, h1, h2⟩ := cn_list P n
    by_cases h : P n = true
    · have e : cn P (n + 1) = cn P n + 1 := by simp only [cn]; rw [if_pos h]
      refine ⟨upN t (cn P n) n, fun i hi => ?_, fun i j hij hj => ?_⟩
      · rw [e] at hi
        by_cases q : i = cn P n
        · unfold upN; rw [if_pos q]; exact ⟨by omega, h⟩
        · unfold upN; rw [if_neg q]
          have := h1 i (by omega)
          exact ⟨by omega, this.2⟩
      · rw [e] at hj
        unfold upN
        rw [if_neg (show i ≠ cn P n by omega)]
        by_cases q : j = cn P n
        · rw [if_pos q]; exact (h1 i (by omega)).1
        · rw [if_neg q]; exact h2 i j hij (by omega)
    · have e : cn P (n + 1) = cn P n := by simp only [cn]; rw [if_neg h]; rfl
      rw [e]
      exact ⟨t, fun i hi => ⟨by have := (h1 i hi).1; omega, (h1 i hi).2⟩, h2⟩
theorem pts {p N : Nat} {t : Nat → Nat} (h1 : ∀ i, i < N → t i < p) (h2 : ∀ i j, i < j → j < N → t i < t j) : ∀ i j, i < j → j < N → ¬ (p : Int) ∣ -(t i : Int) - -(t j : Int) := fun i j hij hj w => by
  have a := h2 i j hij hj
  have b := h1 j hj
  have := Int.le_of_dvd (by omega) w
  omega
/-- sums of symbols, by counting -/
theorem sgI_chi (p c : Nat) (v : Nat → Int) : ∀ n : Nat, sgI (fun t => chi p c (v t)) n + n = 2 * (cn (fun t => decide (chi p c (v t) = 1)) n : Int) + (cn (fun t => decide (chi p c (v t) = 0)) n : Int)
  | 0 => rfl
  | n + 1 => by
    have ih := sgI_chi p c v n
    simp only [sgI, cn]
    rcases chi_cs p c (v n) with h | h | h
    · simp [h]; omega
    · simp [h]; omega
    · simp [h]; omega
end
