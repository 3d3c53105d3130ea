/-! THE REFERENCE: signed, valueAt, list -/
section
variable {K : Cx} {I : TI} {L : TL} {A : TA}
theorem irem2 {k : Nat} (hk : k < 2147483648) : (nI k - nI k / 2 * 2).toInt = ((k % 2 : Nat) : Int) := by
  have h2 : (2 : Int32).toInt = 2 := by decide
  have hd : (nI k / 2).toInt = ((k / 2 : Nat) : Int) := by
    rw [Int32.toInt_div, tI hk, h2]
    have e : ((k : Int)).tdiv 2 = ((k / 2 : Nat) : Int) := Int.ofNat_tdiv k 2
    rw [e]
    exact Int.bmod_eq_of_le (by omega) (by omega)
  have hm : (nI k / 2 * 2).toInt = ((k / 2 * 2 : Nat) : Int) := by
    rw [Int32.toInt_mul, hd, h2]
    exact (Int.bmod_eq_of_le (by omega) (by omega)).trans (by omega)
  rw [isub (by rw [tI hk, hm]; omega) (by rw [tI hk, hm]; omega), tI hk, hm]; omega
theorem idiv2 {k : Nat} (hk : k < 2147483648) : nI k / 2 = nI (k / 2) := by
  refine eqn ?_
  rw [Int32.toInt_div, tI hk, show (2 : Int32).toInt = 2 from by decide]
  have e : ((k : Int)).tdiv 2 = ((k / 2 : Nat) : Int) := Int.ofNat_tdiv k 2
  rw [e]
  exact Int.bmod_eq_of_le (by omega) (by omega)
/-- signed(d, k): d for an even k, else -d -/
theorem m_signed {d : Int32} {k : Nat} (hk : k < 2147483648) (hd : -2147483648 < d.toInt) : ConI K yX7_signed wsX7_signed 0 0 I L A [.int d, .int (nI k)] (fun v I' L' A' => v.toInt = (if k % 2 = 0 then d.toInt else -d.toInt) ∧ I' = I ∧ L' = L ∧ A' = A) := by
  have hdl := Int32.toInt_lt d
  have hneg : (-d).toInt = -d.toInt := by rw [Int32.toInt_neg]; exact Int.bmod_eq_of_le (by omega) (by omega)
  have i0 : ∀ x : Int32, x = 0 ↔ x.toInt = 0 := fun x => by rw [← Int32.toInt_inj]; rfl
  apply w_X7_signed
  unfold wp_X7_signed
  refine ⟨fun q => ⟨?_, rfl, rfl, rfl⟩, fun q => ⟨?_, rfl, rfl, rfl⟩⟩
  · rw [i0, irem2 hk] at q
    rw [if_pos (by omega)]
  · rw [i0, irem2 hk] at q
    rw [if_neg (by omega), hneg]
/-- the value at x, by Horner, of the places from i on -/
def hor (f : PP) (x : Int) : Nat → Nat → Int
  | _, 0 => 0
  | i, n + 1 => f i + x * hor f x (i + 1) n
/-- the value at x of a polynomial of length 8 -/
def val8 (f : PP) (x : Int) : Int := hor f x 0 8
theorem hor_bd {f : PP} {x : Int} {M X : Nat} (hf : ∀ k, (f k).natAbs ≤ M) (hx : x.natAbs ≤ X) : ∀ (n i : Nat), (hor f x i n).natAbs ≤ M * (1 + X) ^ n
  | 0, i => by simp [hor]
  | n + 1, i => by
    have h1 := hor_bd hf hx n (i + 1)
    have h2 := mul_ab hx h1
    have h3 := hf i
    have h4 : M ≤ M * (1 + X) ^ n := Nat.le_mul_of_pos_right _ (Nat.pow_pos (by omega))
    rw [hor]
    have h5 : M * (1 + X) ^ (n + 1) = M * (1 + X) ^ n + X * (M * (1 + X) ^ n) := by
      rw [Nat.pow_succ, ← Nat.mul_assoc, Nat.mul_add, Nat.mul_one, Nat.mul_comm (M * (1 + X) ^ n) X]
    omega
theorem m_valueAt {m r M X : Nat} {x : Int32} (hm : isX7 K m) (hr : r < 30) (hM : ∀ k, (rp L m r k).natAbs ≤ M) (hX : x.toInt.natAbs ≤ X) (hB : M * (1 + X) ^ 8 < 9223372036854775808) : ConL K yX7_valueAt wsX7_valueAt 0 0 I L A [.ref m, .int (nI r), .int x] (fun v I' L' A' => v.toInt = val8 (rp L m r) x.toInt ∧ I' = I ∧ L' = L ∧ A' = A) := by
  have hmono : ∀ n, n ≤ 8 → M * (1 + X) ^ n < 9223372036854775808 := fun n hn => Nat.lt_of_le_of_lt (Nat.mul_le_mul_left M (Nat.pow_le_pow_right (by omega) hn)) hB
  apply w_X7_valueAt
  unfold wp_X7_valueAt wp_X7_valueAt_6
  refine ⟨fun μ I' L' A' v k => μ ≤ 8 ∧ k.toInt = (μ : Int) - 1 ∧ v.toInt = hor (rp L m r) x.toInt μ (8 - μ) ∧ I' = I ∧ L' = L ∧ A' = A, 8, ⟨by omega, by decide, rfl, rfl, rfl, rfl⟩, ?_⟩
  rintro μ C hC I' L' A' v k ⟨hμ, hk, hv, rfl, rfl, rfl⟩
  refine ⟨fun q => ?_, fun q => ?_⟩
  · rw [ilt, li0] at q
    have : μ = 0 := by omega
    subst this
    exact ⟨hv, rfl, rfl, rfl⟩
  · rw [ilt, li0] at q
    obtain ⟨i, rfl⟩ : ∃ i, μ = i + 1 := ⟨μ - 1, by omega⟩
    have hki : k.toInt = (i : Int) := by omega
    have hix := rix hr (show i < 8 by omega) (x := nI r) rfl hki
    refine ⟨hm.1, rok hm hr (show i < 8 by omega) hix, fun v3 e3 v4 e4 => ?_⟩
    rw [ix_of hix] at e3
    have hf : (L' (m + 1) (8 * r + i)).toInt = rp L' m r i := by rw [rp_lt (by omega)]
    have b1 := hor_bd hM hX (8 - (i + 1)) (i + 1)
    have b2 := hmono (8 - (i + 1)) (by omega)
    have b3 := hor_bd hM hX (8 - i) i
    have b4 := hmono (8 - i) (by omega)
    have b5 := mul_ab b1 hX
    have e8 : hor (rp L' m r) x.toInt i (8 - i) = rp L' m r i + x.toInt * hor (rp L' m r) x.toInt (i + 1) (8 - (i + 1)) := by
      rw [show 8 - i = (8 - (i + 1)) + 1 by omega, hor]
    have b6 : M * (1 + X) ^ (8 - i) = M * (1 + X) ^ (8 - (i + 1)) + M * (1 + X) ^ (8 - (i + 1)) * X := by
      rw [show 8 - i = (8 - (i + 1)) + 1 by omega, Nat.pow_succ, ← Nat.mul_assoc, Nat.mul_add, Nat.mul_one]
    have em : (v * Int32.toInt64 x).toInt = x.toInt * hor (rp L' m r) x.toInt (i + 1) (8 - (i + 1)) := by
      rw [jmulB (m := M * (1 + X) ^ (8 - (i + 1))) (n := X) (by rw [hv]; exact b1) (by rw [Int32.toInt_toInt64]; exact hX) (by omega), Int32.toInt_toInt64, hv, Int.mul_comm]
    refine hC i _ _ _ _ _ (by omega) ⟨by omega, ?_, ?_, rfl, rfl, rfl⟩
    · rw [e4, iadd (by rw [hki, lim1]; omega) (by rw [hki, lim1]; omega), hki, lim1]; omega
    · rw [e3, jadd (by rw [em, hf]; omega) (by rw [em, hf]; omega), em, hf, e8]; omega
/-- how many numbers up to k divide v -/
def nd (v : Nat) : Nat → Nat
  | 0 => 0
  | k + 1 => nd v k + (if (k + 1) ∣ v then 1 else 0)
theorem nd_le (v : Nat) : ∀ k, nd v k ≤ k
  | 0 => Nat.le_refl 0
  | k + 1 => by
    have := nd_le v k
    rw [nd]
    split <;> omega
theorem nd_miss (v : Nat) {a b : Nat} (hab : a < b) (ha : 0 < a) (na : ¬ a ∣ v) (nb : ¬ b ∣ v) : ∀ k, b ≤ k → nd v k + 2 ≤ k
  | 0, h => by omega
  | k + 1, h => by
    rw [nd]
    by_cases e : b = k + 1
    · rw [← e, if_neg nb]
      have h1 : ∀ j, a ≤ j → nd v j + 1 ≤ j := fun j => by
        induction j with
        | zero => intro hj; omega
        | succ j ih =>
          intro hj
          rw [nd]
          by_cases e2 : a = j + 1
          · rw [← e2, if_neg na]
            have := nd_le v j
            omega
          · have := ih (by omega)
            split <;> omega
      have := h1 k (by omega)
      omega
    · have := nd_miss v hab ha na nb k (by omega)
      split <;> omega
/-- of three large primes one doesn't divide a small number -/
theorem miss3 {v p q r : Nat} (hv : 0 < v) (hp : Pr (p : Int)) (hq : Pr (q : Int)) (hr : Pr (r : Int)) (h1 : ¬ p ∣ q) (h2 : ¬ r ∣ p) (h3 : ¬ r ∣ q) (hb : v < p * q * r) : ¬ p ∣ v ∨ ¬ q ∣ v ∨ ¬ r ∣ v := by
  by_cases a : p ∣ v
  · by_cases b : q ∣ v
    · by_cases c : r ∣ v
      · exfalso
        obtain ⟨s, rfl⟩ := b
        have h4 : p ∣ s := by
          have := hp.2 q s (by rw [← Int.natCast_mul]; exact Int.natCast_dvd_natCast.mpr a)
          rcases this with w | w
          · exact absurd (Int.natCast_dvd_natCast.mp w) h1
          · exact Int.natCast_dvd_natCast.mp w
        obtain ⟨t, rfl⟩ := h4
        have h5 : r ∣ t := by
          have := hr.2 q (p * t) (by rw [← Int.natCast_mul, ← Int.natCast_mul]; exact Int.natCast_dvd_natCast.mpr c)
          rcases this with w | w
          · exact absurd (Int.natCast_dvd_natCast.mp w) h3
          · have := hr.2 p t w
            rcases this with w | w
            · exact absurd (Int.natCast_dvd_natCast.mp w) h2
            · exact Int.natCast_dvd_natCast.mp w
        obtain ⟨u, rfl⟩ := h5
        have hu : 0 < u := by
          rcases Nat.eq_zero_or_pos u with w | w
          · subst w; simp at hv
          · exact w
        have h6 : p * q * r * 1 ≤ p * q * r * u := Nat.mul_le_mul_left _ hu
        have h7 : q * (p * (r * u)) = p * q * r * u := by rw [← Nat.mul_assoc, ← Nat.mul_assoc, Nat.mul_comm q p]
        omega
      · exact Or.inr (Or.inr c)
    · exact Or.inr (Or.inl b)
  · exact Or.inl a
theorem pr_small {n : Nat} (h1 : 1 < n) (h : (List.range n).all (fun k => k < 2 || n % k != 0) = true) : Pr (n : Int) := pr_of h1 (fun d hd => by
  have hle := Nat.le_of_dvd (by omega) hd
  rcases Nat.lt_or_ge d n with q | q
  · have h2 := all_lt n h d q
    rw [Nat.mod_eq_zero_of_dvd hd] at h2
    simp at h2
    rcases Nat.eq_zero_or_pos d with z | z
    · subst z; have := Nat.eq_zero_of_zero_dvd hd; omega
    · omega
  · omega)
theorem nd_102 {v : Nat} (hv : 0 < v) (hb : v ≤ 10500) : ∀ k, k ≤ 102 → nd v k ≤ 100 := by
  have p97 : Pr ((97 : Nat) : Int) := pr_small (by decide) (by decide +kernel)
  have p89 : Pr ((89 : Nat) : Int) := pr_small (by decide) (by decide +kernel)
  have p83 : Pr ((83 : Nat) : Int) := pr_small (by decide) (by decide +kernel)
  have p79 : Pr ((79 : Nat) : Int) := pr_small (by decide) (by decide +kernel)
  have p73 : Pr ((73 : Nat) : Int) := pr_small (by decide) (by decide +kernel)
  have p71 : Pr ((71 : Nat) : Int) := pr_small (by decide) (by decide +kernel)
  have m1 := miss3 hv p97 p89 p83 (by decide) (by decide) (by decide) (by omega)
  have m2 := miss3 hv p79 p73 p71 (by decide) (by decide) (by decide) (by omega)
  obtain ⟨a, ha1, ha2, ha3⟩ : ∃ a, 71 ≤ a ∧ a ≤ 79 ∧ ¬ a ∣ v := by
    rcases m2 with w | w | w
    · exact ⟨79, by omega, by omega, w⟩
    · exact ⟨73, by omega, by omega, w⟩
    · exact ⟨71, by omega, by omega, w⟩
  obtain ⟨b, hb1, hb2, hb3⟩ : ∃ b, 83 ≤ b ∧ b ≤ 97 ∧ ¬ b ∣ v := by
    rcases m1 with w | w | w
    · exact ⟨97, by omega, by omega, w⟩
    · exact ⟨89, by omega, by omega, w⟩
    · exact ⟨83, by omega, by omega, w⟩
  intro k hk
  by_cases q : b ≤ k
  · have := nd_miss v (show a < b by omega) (by omega) ha3 hb3 k q
    omega
  · have := nd_le v k
    omega
end
