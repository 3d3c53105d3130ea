/-! THE DESK: pattern, degree -/
section
variable {K : Cx} {I : TI} {L : TL} {A : TA}
/-- the degrees told last -/
def PatD (x : Nat) (I : TI) (l : List Nat) : Prop := I x 6 = nI l.length ∧ l.length ≤ 6 ∧ ∀ i, i < l.length → I (x + 39) i = nI (l.getD i 0) ∧ l.getD i 0 ≤ 6
theorem lsg_len (g : Nat → Nat) : ∀ n, (lsg g n).length ≤ sgm g n
  | 0 => Nat.le_refl _
  | n + 1 => by
    have := lsg_len g n
    have h2 := Nat.div_le_self (g n) (n + 1)
    rw [lsg, sgm, List.length_append, List.length_replicate]
    omega
theorem lsg_len_le (g : Nat → Nat) (k : Nat) : ∀ m, (lsg g k).length ≤ (lsg g (k + m)).length
  | 0 => Nat.le_refl _
  | m + 1 => by
    have := lsg_len_le g k m
    rw [← Nat.add_assoc, lsg, List.length_append]
    omega
theorem pd_sg {p : Nat} (hp : Pr (p : Int)) {Q : Nat → PF} {g : Nat → Nat} : ∀ n, (∀ j, j < n → md p (Q j).1 (g j)) → md p (pdG pfR Q n).1 (sgm g n)
  | 0, _ => ⟨hp.n1, fun k hk => by
    have hk : 0 < k := hk
    cases k with
    | zero => omega
    | succ k => exact Int.dvd_zero _⟩
  | n + 1, h => (pd_sg hp n (fun j hj => h j (by omega))).mul hp (h n (by omega))
theorem Grp.deg {s p n : Nat} {F : PP} {g : Nat → Nat} {Q : Nat → PF} (hp : Pr (p : Int)) (h : Grp s p n F I L g Q) (hF : md p F n) : sgm g 6 = n := by
  obtain ⟨-, -, -, -, h5, h6, -⟩ := h
  refine (h5.deg hp hF (pd_sg hp 6 (fun j hj => ?_))).symm
  obtain ⟨a, b, c⟩ := h6 j hj
  rcases a with ⟨a1, -⟩ | ⟨a1, a2, a3, a4, -⟩
  · rw [c a1, a1]
    exact ⟨hp.n1, fun k hk => by cases k with
      | zero => omega
      | succ k => exact Int.dvd_zero _⟩
  · rw [b a1]
    exact rsd_md a3 a2.dg
theorem PatD.push {x n : Nat} {I1 I2 : TI} {l : List Nat} (h : PatD x I l) (hl : l.length < 6) (hn : n ≤ 6) (e1 : I1 = u2 I (x + 39) l.length (nI n)) (e2 : I2 = u2 I1 x 6 (nI (l.length + 1))) : PatD x I2 (l ++ [n]) := by
  have hlen : (l ++ [n]).length = l.length + 1 := by rw [List.length_append]; rfl
  refine ⟨by rw [e2, u2_self, hlen], by omega, fun i hi => ?_⟩
  rw [e2, u2_off _ _ (by omega), e1]
  by_cases y : i = l.length
  · subst y
    rw [u2_self]
    have : (l ++ [n]).getD l.length 0 = n := by simp [List.getD]
    rw [this]; exact ⟨rfl, hn⟩
  · rw [u2_ne _ _ (fun t => y t.2)]
    have : (l ++ [n]).getD i 0 = l.getD i 0 := by
      simp only [List.getD]
      rw [List.getElem?_append_left (by omega)]
    rw [this]
    exact h.2.2 i (by omega)
set_option maxHeartbeats 1000000 in
theorem s_tellPattern {x p n : Nat} {F : PP} {g : Nat → Nat} {Q : Nat → PF} (hx : cxS K x = shX6 x) (h39 : cxS K (x + 39) = .inr (0, 6)) (hs : isX5 K (x + 41)) (hA : AX5 A (x + 41)) (hg : Grp (x + 41) p n F I L g Q) (hl : (lsg g 6).length ≤ 6) (h0 : I x 6 = 0) : ConV K yX6_tellPattern wsX6_tellPattern 0 0 I L A [.ref x] (fun I' L' A' => PatD x I' (lsg g 6) ∧ (∀ y, y ≠ x → y ≠ x + 39 → I' y = I y) ∧ (∀ k, k ≠ 6 → I' x k = I x k) ∧ L' = L ∧ A' = A) := by
  obtain ⟨-, -, -, -, -, h6, -⟩ := hg
  have heqs : ∀ j, eq5 (x + 41) j = x + 41 + 27 + 2 * j := fun _ => rfl
  have htop : ∀ j, j < 6 → (I (eq5 (x + 41) (j + 1)) 1 = nI (g j) ∧ 0 < g j ∧ g j ≤ 12) ∨ (g j = 0 ∧ I (eq5 (x + 41) (j + 1)) 1 = -1) := fun j hj => by
    obtain ⟨a, -, -⟩ := h6 j hj
    rcases a with ⟨a1, a2⟩ | ⟨a1, a2, -⟩
    · exact Or.inr ⟨a1, by rw [a2.1.1]; exact tp_0⟩
    · exact Or.inl ⟨by rw [a2.1.1, tp_s], a1, by have := a2.1.2.1; omega⟩
  apply w_X6_tellPattern
  unfold wp_X6_tellPattern wp_X6_tellPattern_2
  refine ⟨fun μ I' L' A' x1 => ∃ j, j + μ = 6 ∧ x1 = nI (j + 1) ∧ PatD x I' (lsg g j) ∧ (∀ y, y ≠ x → y ≠ x + 39 → I' y = I y) ∧ (∀ k, k ≠ 6 → I' x k = I x k) ∧ L' = L ∧ A' = A, 6, ⟨0, rfl, rfl, ⟨h0, Nat.zero_le _, fun i hi => absurd hi (Nat.not_lt_zero _)⟩, fun _ _ _ => rfl, fun _ _ => rfl, rfl, rfl⟩, ?_⟩
  rintro μ C hC I1 L1 A1 _ ⟨j, hj, rfl, hp1, hf1, hk1, rfl, rfl⟩
  refine ⟨fun z => ?_, fun z => ?_⟩
  · rw [ilt, li6, tI (by omega)] at z
    have : j = 6 := by omega
    subst this
    exact ⟨hp1, hf1, hk1, rfl, rfl⟩
  · rw [ilt, li6, tI (by omega)] at z
    have hj6 : j < 6 := by omega
    have hej := heqs (j + 1)
    have hlen : (lsg g j).length + g j / (j + 1) ≤ 6 := by
      have h1 := lsg_len_le g (j + 1) (5 - j)
      rw [show j + 1 + (5 - j) = 6 by omega, lsg, List.length_append, List.length_replicate] at h1
      omega
    unfold wp_X6_tellPattern_10
    refine ⟨fun ν I' L' A' x1 x2 => ∃ t, t + ν = g j / (j + 1) ∧ x1 = nI (j + 1) ∧ x2 = nI ((t + 1) * (j + 1)) ∧ PatD x I' (lsg g j ++ List.replicate t (j + 1)) ∧ (∀ y, y ≠ x → y ≠ x + 39 → I' y = I y) ∧ (∀ k, k ≠ 6 → I' x k = I x k) ∧ L' = L1 ∧ A' = A1, g j / (j + 1), ⟨0, by omega, rfl, by rw [Nat.zero_add, Nat.one_mul], by rw [List.replicate_zero, List.append_nil]; exact hp1, hf1, hk1, rfl, rfl⟩, ?_⟩
    rintro ν D hD I2 L2 A2 _ _ ⟨t, ht, rfl, rfl, hp2, hf2, hk2, rfl, rfl⟩
    have hg12 : g j ≤ 12 := by rcases htop j hj6 with h | h <;> omega
    have hdiv := Nat.div_mul_le_self (g j) (j + 1)
    have hmod := Nat.div_add_mod (g j) (j + 1)
    have hml := Nat.mod_lt (g j) (show 0 < j + 1 by omega)
    have htd : t * (j + 1) ≤ g j / (j + 1) * (j + 1) := Nat.mul_le_mul_right _ (by omega)
    have hts : (t + 1) * (j + 1) = t * (j + 1) + (j + 1) := by rw [Nat.add_mul, Nat.one_mul]
    have hlt : (t + 1) * (j + 1) ≤ g j ↔ t < g j / (j + 1) := by
      constructor
      · intro w
        have := (Nat.le_div_iff_mul_le (show 0 < j + 1 by omega)).mpr w
        omega
      · intro w
        have : (t + 1) * (j + 1) ≤ g j / (j + 1) * (j + 1) := Nat.mul_le_mul_right _ w
        omega
    have leave : ¬ t < g j / (j + 1) → ∀ v : Int32, v = nI (j + 1) + 1 → C I2 L2 A2 v := fun hq v hv => by
      have : t = g j / (j + 1) := by omega
      subst this
      exact hC (μ - 1) _ _ _ _ (by omega) ⟨j + 1, by omega, by rw [hv, sI], by rw [lsg]; exact hp2, hf2, hk2, rfl, rfl⟩
    have hix : (nI (j + 1)).toInt = ((j + 1 : Nat) : Int) := tI (by omega)
    refine ⟨hx, hs.1, hs.eqa (show j + 1 < 7 by omega) hix, ?_⟩
    rw [ix_of hix, hA.2.1 (j + 1) (by omega)]
    have hI2 : I2 (eq5 (x + 41) (j + 1)) 1 = I (eq5 (x + 41) (j + 1)) 1 := by rw [hf2 _ (by omega) (by omega)]
    refine ⟨(hs.eqr (show j + 1 < 7 by omega)).1, fun w v hv => leave ?_ v hv, fun w => ?_⟩
    · rw [hI2] at w
      rcases htop j hj6 with ⟨h1, h2, h3⟩ | ⟨h1, h2⟩
      · rw [h1, ilt, tI (by omega), tI (by omega)] at w
        rw [← hlt]; omega
      · rw [h1]; simp
    · have hlt2 : t < g j / (j + 1) := by
        rw [hI2] at w
        rcases htop j hj6 with ⟨h1, h2, h3⟩ | ⟨h1, h2⟩
        · rw [h1, ilt, tI (by omega), tI (by omega)] at w
          rw [← hlt]; omega
        · exfalso
          rw [h2, ilt, lim1, tI (by omega)] at w
          omega
      have hll : (lsg g j ++ List.replicate t (j + 1)).length = (lsg g j).length + t := by rw [List.length_append, List.length_replicate]
      have h6' : I2 x 6 = nI ((lsg g j).length + t) := by rw [hp2.1, hll]
      refine ⟨fun w2 => ?_, fun w2 => ?_⟩
      · rw [h6', ile, li6, tI (by omega)] at w2
        omega
      · have hix2 : (I2 x 6).toInt = (((lsg g j).length + t : Nat) : Int) := by rw [h6', tI (by omega)]
        refine ⟨⟨6, h39, inOf hix2 (by omega)⟩, fun I8 e8 I9 e9 v hv => ?_⟩
        rw [ix_of hix2] at e8
        have e9' : I9 = u2 I8 x 6 (nI ((lsg g j ++ List.replicate t (j + 1)).length + 1)) := by
          rw [e9, e8, u2_off _ _ (by omega), h6', sI, hll]
        rw [← hll] at e8
        have hpush := hp2.push (n := j + 1) (by omega) (by omega) e8 e9'
        refine hD (ν - 1) _ _ _ _ _ (by omega) ⟨t + 1, by omega, rfl, ?_, ?_, fun y h1 h2 => by rw [e9, u2_off _ _ h1, e8, u2_off _ _ h2]; exact hf2 y h1 h2, fun k hk => by rw [e9, u2_ne _ _ (fun q => hk q.2), e8, u2_off _ _ (by omega)]; exact hk2 k hk, rfl, rfl⟩
        · rw [hv]
          refine eqn ?_
          rw [iadd_n (tI (k := (t + 1) * (j + 1)) (by omega)) (tI (k := j + 1) (by omega)) (by omega), show (t + 1 + 1) * (j + 1) = (t + 1) * (j + 1) + (j + 1) by rw [Nat.add_mul (t + 1), Nat.one_mul]]
        · rw [List.replicate_succ', ← List.append_assoc]; exact hpush
theorem s_checkPrime {q : Nat} (hq : okPr (nI q)) (hq2 : q < 2147483648) : ConV K yX6_checkPrime wsX6_checkPrime 1 40 I L A [.int (nI q)] (fun I' L' A' => I' = I ∧ L' = L ∧ A' = A) := by
  obtain ⟨h2, h997, hp⟩ := hq
  rw [tI hq2] at h2 h997 hp
  apply w_X6_checkPrime
  unfold wp_X6_checkPrime
  refine ⟨fun z => ?_, fun _ => ⟨fun _ => ?_, fun z => ?_⟩⟩
  · rw [ilt, tI hq2, show (2 : Int32).toInt = 2 from rfl] at z; omega
  · unfold wp_X6_checkPrime_24
    refine ⟨fun μ I' L' A' x => ∃ k : Nat, 2 ≤ k ∧ k + μ = 1000 ∧ x = nI k ∧ I' = I ∧ L' = L ∧ A' = A, 998, ⟨2, by omega, rfl, rfl, rfl, rfl, rfl⟩, ?_⟩
    rintro μ C hC I1 L1 A1 _ ⟨k, hk2, hkμ, rfl, rfl, rfl, rfl⟩
    have hkk : k * k < 2147483648 := by
      have : k * k ≤ 1000 * 1000 := Nat.mul_le_mul (by omega) (by omega)
      omega
    refine ⟨fun _ => ⟨rfl, rfl, rfl⟩, fun z => ?_⟩
    rw [ilt, tI hq2, imul_n (tI (by omega)) (tI (by omega)) hkk] at z
    have hle : k * k ≤ q := by omega
    have hk1 : 2 * k ≤ k * k := Nat.mul_le_mul_right k hk2
    obtain ⟨e1, e2⟩ := irem_n (a := nI q) (b := nI k) (tI hq2) (tI (by omega)) (by omega)
    refine ⟨e2, fun w => ?_, fun _ v hv => hC (μ - 1) _ _ _ _ (by omega) ⟨k + 1, by omega, by omega, by rw [hv, sI], rfl, rfl, rfl⟩⟩
    rw [e1] at w
    have hm := Nat.mod_lt q (show 0 < k by omega)
    have h0 : q % k = 0 := by
      have := congrArg Int32.toInt w
      rw [tI (by omega), li0] at this
      omega
    exact not_pr (show 1 < k by omega) (by omega) (Nat.dvd_of_mod_eq_zero h0) hp
  · rw [ile, tI hq2, show (997 : Int32).toInt = 997 from rfl] at z; omega
end
