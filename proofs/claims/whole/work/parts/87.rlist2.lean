/-! THE REFERENCE: list, the divisors of a number -/
section
variable {K : Cx} {I : TI} {L : TL} {A : TA}
theorem l2i {x : Int64} {k : Nat} (h : x.toInt = k) (hk : k < 2147483648) : Int64.toInt32 x = nI k := eqn (by rw [Int64.toInt_toInt32, h]; exact Int.bmod_eq_of_le (by omega) (by omega))
/-- the places from fr to fr + n hold the divisors of V, all and no others -/
def lst (J : Nat → Int32) (fr n V : Nat) : Prop := (∀ j, j < n → ∃ d, 0 < d ∧ d ∣ V ∧ J (fr + j) = nI d) ∧ ∀ d, 0 < d → d ∣ V → ∃ j, j < n ∧ J (fr + j) = nI d
theorem lst.keep {J J' : Nat → Int32} {fr n V : Nat} (h : lst J fr n V) (hj : ∀ j, fr ≤ j → j < fr + n → J' j = J j) : lst J' fr n V := by
  refine ⟨fun j hj' => ?_, fun d h1 h2 => ?_⟩
  · obtain ⟨d, a, b, c⟩ := h.1 j hj'
    exact ⟨d, a, b, by rw [hj (fr + j) (by omega) (by omega)]; exact c⟩
  · obtain ⟨j, a, b⟩ := h.2 d h1 h2
    exact ⟨j, a, by rw [hj (fr + j) (by omega) (by omega)]; exact b⟩
set_option maxHeartbeats 2000000 in
theorem m_list {m fr V : Nat} {x : Int64} (hm : isX7 K m) (hx : x.toInt.natAbs = V) (hV : V ≤ 10500) (hfr : fr ≤ 400) : ConI K yX7_list wsX7_list 0 0 I L A [.ref m, .long x, .int (nI fr)] (fun v I' L' A' => (∃ n : Nat, v = nI n ∧ n ≤ 200 ∧ (V ≤ 300 → n ≤ 34) ∧ (0 < V → lst (I' (m + 7)) fr n V) ∧ (V = 0 → n = 0) ∧ ∀ j, (j < fr ∨ fr + n ≤ j) → I' (m + 7) j = I (m + 7) j) ∧ (∀ y, y ≠ m + 7 → I' y = I y) ∧ L' = L ∧ A' = A) := by
  have key : ∀ c : Int64, c.toInt = V → wp_X7_list_12 K m x (nI fr) I L A c (fun v I' L' A' => (∃ n : Nat, v = nI n ∧ n ≤ 200 ∧ (V ≤ 300 → n ≤ 34) ∧ (0 < V → lst (I' (m + 7)) fr n V) ∧ (V = 0 → n = 0) ∧ ∀ j, (j < fr ∨ fr + n ≤ j) → I' (m + 7) j = I (m + 7) j) ∧ (∀ y, y ≠ m + 7 → I' y = I y) ∧ L' = L ∧ A' = A) := by
    intro c hc
    unfold wp_X7_list_12 wp_X7_list_20
    refine ⟨fun μ I' L' A' x4 x6 x7 => ∃ k n : Nat, k + μ = 103 ∧ k * k ≤ V ∧ c = x4 ∧ x6 = nI n ∧ x7.toInt = ((k + 1 : Nat) : Int) ∧ n ≤ 2 * nd V k ∧ (∀ j, j < n → ∃ d, 0 < d ∧ d ∣ V ∧ I' (m + 7) (fr + j) = nI d) ∧ (∀ d, 0 < d → d ≤ k → d ∣ V → (∃ j, j < n ∧ I' (m + 7) (fr + j) = nI d) ∧ ∃ j, j < n ∧ I' (m + 7) (fr + j) = nI (V / d)) ∧ (∀ j, (j < fr ∨ fr + n ≤ j) → I' (m + 7) j = I (m + 7) j) ∧ (∀ y, y ≠ m + 7 → I' y = I y) ∧ L' = L ∧ A' = A, 103, ⟨0, 0, rfl, Nat.zero_le _, rfl, rfl, by decide, Nat.zero_le _, fun j hj => absurd hj (Nat.not_lt_zero _), fun d h1 h2 => by omega, fun _ _ => rfl, fun _ _ => rfl, rfl, rfl⟩, ?_⟩
    rintro μ C hC I' L' A' _ _ x7 ⟨k, n, hk, hkk, rfl, rfl, h7, hn, hent, hall, hout, hoth, rfl, rfl⟩
    have hk102 : k ≤ 102 := by
      rcases Nat.lt_or_ge k 103 with w | w
      · omega
      · have := Nat.mul_le_mul w w; omega
    have hsq : (x7 * x7).toInt = (((k + 1) * (k + 1) : Nat) : Int) := by
      rw [jmulB (m := 103) (n := 103) (by rw [h7]; omega) (by rw [h7]; omega) (by decide), h7, Int.natCast_mul]
    have hnb : V = 0 ∨ nd V k ≤ 100 := by
      rcases Nat.eq_zero_or_pos V with w | w
      · exact Or.inl w
      · exact Or.inr (nd_102 w hV k hk102)
    have hn200 : n ≤ 200 := by
      rcases hnb with w | w
      · have hk0 : k = 0 := by
          rcases Nat.eq_zero_or_pos k with z | z
          · exact z
          · have := Nat.mul_pos z z; omega
        subst hk0
        have : nd V 0 = 0 := rfl
        omega
      · omega
    refine ⟨fun q => ?_, fun q => ?_⟩
    · rw [jlt, hsq, hc] at q
      have hq : V < (k + 1) * (k + 1) := by omega
      refine ⟨⟨n, rfl, hn200, fun h300 => ?_, fun hV0 => ⟨hent, fun d hd1 hd2 => ?_⟩, fun hV0 => ?_, hout⟩, hoth, rfl, rfl⟩
      · have hk17 : k ≤ 17 := by
          rcases Nat.lt_or_ge k 18 with w | w
          · omega
          · have := Nat.mul_le_mul w w; omega
        have := nd_le V k
        omega
      · rcases Nat.lt_or_ge k d with w | w
        · obtain ⟨e, he⟩ := hd2
          have he0 : 0 < e := by
            rcases Nat.eq_zero_or_pos e with z | z
            · rw [z] at he; omega
            · exact z
          have hek : e ≤ k := by
            rcases Nat.lt_or_ge k e with u | u
            · have := Nat.mul_le_mul (show k + 1 ≤ d by omega) (show k + 1 ≤ e by omega)
              omega
            · exact u
          obtain ⟨-, j, hj1, hj2⟩ := hall e he0 hek ⟨d, by rw [he, Nat.mul_comm]⟩
          refine ⟨j, hj1, ?_⟩
          rw [hj2, he, Nat.mul_div_cancel _ he0]
        · exact (hall d hd1 w hd2).1
      · subst hV0
        have hk0 : k = 0 := by
          rcases Nat.eq_zero_or_pos k with z | z
          · exact z
          · have := Nat.mul_pos z z; omega
        subst hk0
        have : nd 0 0 = 0 := rfl
        omega
    · rw [jlt, hsq, hc] at q
      have hq : (k + 1) * (k + 1) ≤ V := by omega
      have hV0 : 0 < V := by have := Nat.mul_pos (show 0 < k + 1 by omega) (show 0 < k + 1 by omega); omega
      have h70 : ¬ x7 = 0 := fun z => by rw [j0, h7] at z; omega
      have hrem : (c - c / x7 * x7).toInt = ((V % (k + 1) : Nat) : Int) := by rw [jrem _ _ (by rw [hc]; omega)]; exact tmod_nat hc h7
      have hdivv : (c / x7).toInt = ((V / (k + 1) : Nat) : Int) := by rw [jdiv (by rw [hc]; omega), hc, h7]; exact Int.ofNat_tdiv _ _
      have hinc : ∀ v : Int64, v = x7 + 1 → v.toInt = ((k + 1 + 1 : Nat) : Int) := fun v hv => by
        have : (1 : Int64).toInt = 1 := by decide
        rw [hv, jadd (by rw [h7, this]; omega) (by rw [h7, this]; omega), h7, this]; omega
      have hix : ∀ t : Nat, t ≤ 202 → (nI fr + nI t).toInt = ((fr + t : Nat) : Int) := fun t ht => by
        rw [iadd (by rw [tI (by omega), tI (by omega)]; omega) (by rw [tI (by omega), tI (by omega)]; omega), tI (by omega), tI (by omega)]; omega
      have hok : ∀ t : Nat, t < 200 → aok (cxS K) (m + 7) 0 (nI fr + nI t) := fun t ht => ⟨600, hm.2.2.2.2.2.2.2.1, inOf (hix t (by omega)) (by omega)⟩
      have hnd : (k + 1) ∣ V → nd V (k + 1) = nd V k + 1 := fun w => by rw [nd, if_pos w]
      have hnd' : ¬ (k + 1) ∣ V → nd V (k + 1) = nd V k := fun w => by rw [nd, if_neg w]; rfl
      refine ⟨h70, fun z => ?_, fun z v2 e2 => ?_⟩
      · rw [j0, hrem] at z
        have hdv : (k + 1) ∣ V := Nat.dvd_of_mod_eq_zero (by omega)
        have h100 := nd_102 hV0 hV (k + 1) (by
          rcases Nat.lt_or_ge k 102 with w | w
          · omega
          · have := Nat.mul_le_mul (show 103 ≤ k + 1 by omega) (show 103 ≤ k + 1 by omega); omega)
        have hn2 : n + 2 ≤ 2 * nd V (k + 1) := by rw [hnd hdv]; omega
        refine ⟨hm.1, hok n (by omega), fun I5 e5 v6 e6 => ?_⟩
        rw [ix_of (hix n (by omega)), l2i h7 (by omega)] at e5
        rw [sI] at e6
        have h5o : ∀ j, j ≠ fr + n → I5 (m + 7) j = I' (m + 7) j := fun j hj => by rw [e5, u2_ne _ _ (fun t => hj t.2)]
        have h5s : I5 (m + 7) (fr + n) = nI (k + 1) := by rw [e5, u2_self]
        have h5y : ∀ y, y ≠ m + 7 → I5 y = I' y := fun y hy => by rw [e5, u2_off _ _ hy]
        refine ⟨fun z2 v7 e7 => ?_, fun z2 => ⟨h70, by rw [e6]; exact hok (n + 1) (by omega), fun I10 e10 v11 e11 v12 e12 => ?_⟩⟩
        · rw [jle, hsq, hc] at z2
          have hVk : V = (k + 1) * (k + 1) := by omega
          have hVd : V / (k + 1) = k + 1 := by rw [hVk, Nat.mul_div_cancel _ (by omega)]
          refine hC (μ - 1) _ _ _ _ _ _ (by omega) ⟨k + 1, n + 1, by omega, hq, rfl, e6, hinc v7 e7, by omega, fun j hj => ?_, fun d hd1 hd2 hd3 => ?_, fun j hj => ?_, fun y hy => (h5y y hy).trans (hoth y hy), rfl, rfl⟩
          · by_cases w : j = n
            · rw [w]; exact ⟨k + 1, by omega, hdv, h5s⟩
            · obtain ⟨d, a1, a2, a3⟩ := hent j (by omega)
              exact ⟨d, a1, a2, by rw [h5o _ (by omega)]; exact a3⟩
          · by_cases w : d = k + 1
            · subst w
              exact ⟨⟨n, by omega, h5s⟩, n, by omega, by rw [h5s, hVd]⟩
            · obtain ⟨⟨j1, a1, a2⟩, j2, b1, b2⟩ := hall d hd1 (by omega) hd3
              exact ⟨⟨j1, by omega, by rw [h5o _ (by omega)]; exact a2⟩, j2, by omega, by rw [h5o _ (by omega)]; exact b2⟩
          · rw [h5o j (by omega)]; exact hout j (by omega)
        · rw [e6, ix_of (hix (n + 1) (by omega)), l2i hdivv (by have := Nat.div_le_self V (k + 1); omega)] at e10
          rw [e6, sI] at e11
          have h10o : ∀ j, j ≠ fr + (n + 1) → I10 (m + 7) j = I5 (m + 7) j := fun j hj => by rw [e10, u2_ne _ _ (fun t => hj t.2)]
          have h10s : I10 (m + 7) (fr + (n + 1)) = nI (V / (k + 1)) := by rw [e10, u2_self]
          have h10y : ∀ y, y ≠ m + 7 → I10 y = I5 y := fun y hy => by rw [e10, u2_off _ _ hy]
          have hqd : 0 < V / (k + 1) := Nat.div_pos (by have := Nat.le_mul_of_pos_right (k + 1) (show 0 < k + 1 by omega); omega) (by omega)
          refine hC (μ - 1) _ _ _ _ _ _ (by omega) ⟨k + 1, n + 2, by omega, hq, rfl, e11, hinc v12 e12, hn2, fun j hj => ?_, fun d hd1 hd2 hd3 => ?_, fun j hj => ?_, fun y hy => (h10y y hy).trans ((h5y y hy).trans (hoth y hy)), rfl, rfl⟩
          · by_cases w : j = n + 1
            · rw [w]; exact ⟨V / (k + 1), hqd, Nat.div_dvd_of_dvd hdv, h10s⟩
            · rw [h10o _ (by omega)]
              by_cases w2 : j = n
              · rw [w2]; exact ⟨k + 1, by omega, hdv, h5s⟩
              · obtain ⟨d, a1, a2, a3⟩ := hent j (by omega)
                exact ⟨d, a1, a2, by rw [h5o _ (by omega)]; exact a3⟩
          · by_cases w : d = k + 1
            · subst w
              exact ⟨⟨n, by omega, by rw [h10o _ (by omega)]; exact h5s⟩, n + 1, by omega, h10s⟩
            · obtain ⟨⟨j1, a1, a2⟩, j2, b1, b2⟩ := hall d hd1 (by omega) hd3
              exact ⟨⟨j1, by omega, by rw [h10o _ (by omega), h5o _ (by omega)]; exact a2⟩, j2, by omega, by rw [h10o _ (by omega), h5o _ (by omega)]; exact b2⟩
          · rw [h10o j (by omega), h5o j (by omega)]; exact hout j (by omega)
      · rw [j0, hrem] at z
        have hndv : ¬ (k + 1) ∣ V := fun w => z (by rw [Nat.mod_eq_zero_of_dvd w]; rfl)
        refine hC (μ - 1) _ _ _ _ _ _ (by omega) ⟨k + 1, n, by omega, hq, rfl, rfl, hinc v2 e2, by rw [hnd' hndv]; exact hn, hent, fun d hd1 hd2 hd3 => ?_, hout, hoth, rfl, rfl⟩
        by_cases w : d = k + 1
        · rw [w] at hd3; exact absurd hd3 hndv
        · exact hall d hd1 (by omega) hd3
  apply w_X7_list
  unfold wp_X7_list
  refine ⟨fun q => key x ?_, fun q => key (-x) ?_⟩
  · rw [jle, show (0 : Int64).toInt = 0 from rfl] at q; omega
  · rw [jle, show (0 : Int64).toInt = 0 from rfl] at q
    rw [jneg (by omega)]; omega
end
