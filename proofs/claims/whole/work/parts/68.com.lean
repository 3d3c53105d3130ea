/-! RESIDUES: makeMonic, takeRest, findCommon -/
section
variable {K : Cx} {I : TI} {L : TL} {A : TA}
/-- a prime that the rows are residues of -/
def Pm (p : Nat) : Prop := Pr (p : Int) ∧ p < 67108864
theorem mod_dvd (x : Int) (p : Int) : p ∣ x % p - x := by
  have := Int.emod_add_mul_ediv x p
  exact ⟨-(x / p), by rw [Int.mul_neg]; omega⟩
set_option maxHeartbeats 1000000 in
/-- makeMonic(a): by a unit, so that the lead is 1 -/
theorem s_makeMonic {o r d p : Nat} (ho : cxS K o = shX3 o) (h : isRow K r) (hp : mdl L o = p) (hP : Pm p) (hr : rsd p (pl L r)) (hn : RowN I L r d) : ConV K yX3_makeMonic wsX3_makeMonic 2 41 I L A [.ref o, .ref r] (fun I' L' A' => (∃ c c' : Int, (p : Int) ∣ c * c' - 1 ∧ cg p (pl L' r) (pc c (pl L r))) ∧ rsd p (pl L' r) ∧ RowN I' L' r d ∧ (∀ e, d = e + 1 → pl L' r e = 1) ∧ ChR (· = r) I I' L L' ∧ A' = A) := by
  have hp1 := hP.1.1
  have hp2 := hP.2
  have hd := hn.1.2.1
  have hone : (p : Int) ∣ 1 * 1 - 1 := ⟨0, by simp⟩
  have hcg1 : cg p (pl L r) (pc 1 (pl L r)) := fun k => by simp only [pc]; exact ⟨0, by omega⟩
  apply w_X3_makeMonic
  unfold wp_X3_makeMonic
  refine ⟨h.1, _, s_lead h hn.1.1 hd, ?_⟩
  rintro v I1 L1 A1 ⟨hv, rfl, rfl, hA1⟩
  rcases d with _ | e
  · -- nothing there
    rw [if_pos rfl] at hv
    refine ⟨fun z => absurd (z.symm.trans hv) (by decide), fun _ => ⟨_, s_lead h hn.1.1 hd, ?_⟩⟩
    rintro v2 I2 L2 A2 ⟨hv2, rfl, rfl, hA2⟩
    rw [if_pos rfl] at hv2
    refine ⟨ho, fun _ I' L' A' => I' = I2 ∧ L' = L2 ∧ A' = A2, ?_, ?_⟩
    · apply w_X3_inverse
      unfold wp_X3_inverse wp_X3_inverse_17
      refine ⟨ho, fun v8 e8 => ⟨fun μ I' L' A' x3 x5 x7 x9 x11 => x5 = 0 ∧ x7 = 0 ∧ I' = I2 ∧ L' = L2 ∧ A' = A2, 0, ⟨hv2, rfl, rfl, rfl, rfl⟩, ?_⟩⟩
      rintro μ C hC I' L' A' x3 _ _ x9 x11 ⟨rfl, rfl, hI, hL, hA⟩
      have fin : wp_X3_inverse_77 K o v2 I' L' A' 0 (fun _ I' L' A' => I' = I2 ∧ L' = L2 ∧ A' = A2) := by
        unfold wp_X3_inverse_77
        exact ⟨fun _ => ⟨hI, hL, hA⟩, fun z => absurd (by decide) z⟩
      exact ⟨fun _ => fin, fun _ => ⟨fun _ => fin, fun z => absurd rfl z⟩⟩
    · rintro v3 I3 L3 A3 ⟨rfl, rfl, hA3⟩
      unfold wp_X3_makeMonic_22
      refine ⟨fun μ I' L' A' x y => y = 0 ∧ I' = I3 ∧ L' = L3 ∧ A' = A, 0, ⟨rfl, rfl, rfl, by rw [hA3, hA2, hA1]⟩, ?_⟩
      rintro μ C hC I' L' A' x _ ⟨rfl, rfl, rfl, hA⟩
      refine ⟨h.1, fun _ => ⟨⟨1, 1, hone, hcg1⟩, hr, hn, fun e he => (by cases he), ChR.refl _ _ _, hA⟩, fun z => absurd ?_ z⟩
      rw [hn.1.1]; decide
  · rw [if_neg (by omega), Nat.add_sub_cancel] at hv
    have hvi : v.toInt = pl L1 r e := by rw [hv, pl_lt (by omega)]
    refine ⟨fun z => ⟨⟨1, 1, hone, hcg1⟩, hr, hn, fun e' he => ?_, ChR.refl _ _ _, hA1⟩, fun z => ⟨_, s_lead h hn.1.1 hd, ?_⟩⟩
    · have : e' = e := by omega
      rw [this, ← hvi, z]; rfl
    rintro v2 I2 L2 A2 ⟨hv2, rfl, rfl, hA2⟩
    rw [if_neg (by omega), Nat.add_sub_cancel] at hv2
    have hv2i : v2.toInt = pl L2 r e := by rw [hv2, pl_lt (by omega)]
    have hre := hr e
    have hne := hn.2 e rfl
    obtain ⟨a, ha⟩ : ∃ a : Nat, pl L2 r e = a := ⟨(pl L2 r e).toNat, by omega⟩
    have ha0 : 0 < a := by omega
    have hap : a < p := by omega
    refine ⟨ho, _, s_inverse (a := a) ho hp (by omega) hp2 (hv2i.trans ha) ha0 hap (pr_gcd hP.1 ha0 hap), ?_⟩
    rintro w I3 L3 A3 ⟨⟨hw0, hwp, hwd⟩, rfl, rfl, hA3⟩
    have hAA : A3 = A := by rw [hA3, hA2, hA1]
    have ho1 := x3_ne ho h
    unfold wp_X3_makeMonic_22
    refine ⟨fun μ I' L' A' x y => ∃ i : Nat, i + μ = e + 1 ∧ w = x ∧ y = nI i ∧ I' = I3 ∧ (∀ k, k < i → pl L' r k = (pl L3 r k * w.toInt) % p) ∧ (∀ k, i ≤ k → L' (r + 1) k = L3 (r + 1) k) ∧ (∀ x, x ≠ r + 1 → L' x = L3 x) ∧ A' = A, e + 1, ⟨0, by omega, rfl, rfl, rfl, fun k hk => absurd hk (Nat.not_lt_zero _), fun _ _ => rfl, fun _ _ => rfl, hAA⟩, ?_⟩
    rintro μ C hC I' L' A' _ _ ⟨i, hi, rfl, rfl, rfl, h1, h2, h3, hA⟩
    refine ⟨h.1, fun q => ?_, fun q => ?_⟩
    · rw [hn.1.1, tp_lt (by omega) (by omega)] at q
      have : i = e + 1 := by omega
      subst this
      have key : ∀ k, pl L' r k = (pl L3 r k * w.toInt) % p := fun k => by
        by_cases y : k < e + 1
        · exact h1 k y
        · have e2 := hn.1.dl k (by omega)
          rw [e2, Int.zero_mul, Int.zero_emod]
          by_cases y2 : k < 13
          · rw [pl_lt y2, h2 k (by omega), ← pl_lt (r := r) y2, e2]
          · exact if_neg y2
      have hlead : pl L' r e = 1 := by
        rw [key e, ha]
        obtain ⟨c, hc⟩ := hwd
        have : (a : Int) * w.toInt = 1 + p * c := by omega
        rw [this, Int.add_mul_emod_self_left]
        exact Int.emod_eq_of_lt (by omega) (by omega)
      refine ⟨⟨w.toInt, a, by rw [Int.mul_comm]; exact hwd, fun k => ?_⟩, fun k => ?_, ⟨⟨hn.1.1, hd, fun k hk1 hk2 => by rw [h2 k hk1]; exact hn.1.2.2 k hk1 hk2⟩, fun e' he => ?_⟩, fun e' he => ?_, ⟨fun _ _ => rfl, fun x hx => h3 x (hx r rfl)⟩, hA⟩
      · simp only [pc]
        rw [key k, Int.mul_comm w.toInt]
        exact mod_dvd _ _
      · rw [key k]
        exact ⟨Int.emod_nonneg _ (by omega), Int.emod_lt_of_pos _ (by omega)⟩
      · have : e' = e := by omega
        rw [this, hlead]; decide
      · have : e' = e := by omega
        rw [this, hlead]
    · rw [hn.1.1, tp_lt (by omega) (by omega)] at q
      have hmo : (L' o 0).toInt = p := by rw [h3 o ho1]; exact hp
      have hm0 : ¬ L' o 0 = 0 := fun z => by rw [j0, hmo] at z; omega
      refine ⟨h.ok (by omega), ho, hm0, h.ok (by omega), fun L6 e6 v7 e7 => ?_⟩
      rw [ixn (by omega), h2 i (Nat.le_refl i)] at e6
      have hri := hr i
      rw [pl_lt (by omega)] at hri
      have hmul : (L3 (r + 1) i * w).toInt = (L3 (r + 1) i).toInt * w.toInt := jmulB (m := 67108864) (n := 67108864) (by omega) (by omega) (by decide)
      have hnn : 0 ≤ (L3 (r + 1) i).toInt * w.toInt := Int.mul_nonneg hri.1 hw0
      refine hC (μ - 1) _ _ _ _ _ (by omega) ⟨i + 1, by omega, rfl, by rw [e7, sI], rfl, fun k hk => ?_, fun k hk => ?_, fun x hx => ?_, hA⟩
      · by_cases y : k = i
        · subst y
          rw [pl_lt (by omega), e6, u2_self, jrem _ _ (by rw [hmul]; omega), hmul, hmo, Int.tmod_eq_emod_of_nonneg hnn, pl_lt (by omega)]
        · rw [pl_lt (by omega), e6, u2_ne _ _ (fun t => y t.2), ← pl_lt (r := r) (by omega)]
          exact h1 k (by omega)
      · rw [e6, u2_ne _ _ (fun t => by omega)]
        exact h2 k (by omega)
      · rw [e6, u2_off _ _ hx]
        exact h3 x hx
set_option maxHeartbeats 1000000 in
/-- subtractShifted(a, m, shift): a less its highest place times m, shifted -/
theorem s_subtractShifted {o r u e s p : Nat} (ho : cxS K o = shX3 o) (h : isRow K r) (hu : isRow K u) (hru : r ≠ u) (hp : mdl L o = p) (hp1 : 1 < p) (hp2 : p < 67108864) (hr : rsd p (pl L r)) (hru2 : rsd p (pl L u)) (hn : St I L u (e + 1)) (hs : s + e < 13) : ConV K yX3_subtractShifted wsX3_subtractShifted 0 0 I L A [.ref o, .ref r, .ref u, .int (nI s)] (fun I' L' A' => (∀ k, pl L' r k = if s ≤ k ∧ k ≤ s + e then (pl L r k + (p - pl L r (s + e)) * pl L u (k - s)) % p else pl L r k) ∧ I' = I ∧ ChR (· = r) I I' L L' ∧ A' = A) := by
  have hd := hn.2.1
  have ho1 := x3_ne ho h
  have hsum : (nI s + I u 1).toInt = ((s + e : Nat) : Int) := by
    rw [hn.1, tp_s, iadd (by rw [tI (by omega), tI (by omega)]; omega) (by rw [tI (by omega), tI (by omega)]; omega), tI (by omega), tI (by omega)]; omega
  apply w_X3_subtractShifted
  unfold wp_X3_subtractShifted
  refine ⟨ho, h.1, hu.1, h.ok' hsum hs, fun v14 e14 => ?_⟩
  rw [ix_of hsum] at e14
  have hx := hr (s + e)
  rw [pl_lt hs] at hx
  have hm : (L o 0).toInt = p := hp
  have h14 : v14.toInt = p - pl L r (s + e) := by rw [e14, jsub (by rw [hm]; omega) (by rw [hm]; omega), hm, pl_lt hs]
  have hx2 := hr (s + e)
  unfold wp_X3_subtractShifted_21
  refine ⟨fun μ I' L' A' x y => ∃ j : Nat, j + μ = e + 1 ∧ v14 = x ∧ y = nI j ∧ I' = I ∧ (∀ k, pl L' r k = if s ≤ k ∧ k < s + j then (pl L r k + (p - pl L r (s + e)) * pl L u (k - s)) % p else pl L r k) ∧ (∀ x, x ≠ r + 1 → L' x = L x) ∧ A' = A, e + 1, ⟨0, by omega, rfl, rfl, rfl, fun k => by rw [if_neg (by omega)], fun _ _ => rfl, rfl⟩, ?_⟩
  rintro μ C hC I' L' A' _ _ ⟨j, hj, rfl, rfl, rfl, h1, h3, hA⟩
  refine ⟨hu.1, fun q => ?_, fun q => ?_⟩
  · rw [hn.1, tp_lt (by omega) (by omega)] at q
    have : j = e + 1 := by omega
    subst this
    refine ⟨fun k => ?_, rfl, ⟨fun _ _ => rfl, fun x hx => h3 x (hx r rfl)⟩, hA⟩
    rw [h1 k]
    by_cases y : s ≤ k ∧ k ≤ s + e
    · rw [if_pos y, if_pos ⟨y.1, by omega⟩]
    · rw [if_neg y, if_neg (fun t => y ⟨t.1, by omega⟩)]
  · rw [hn.1, tp_lt (by omega) (by omega)] at q
    have hs2 : (nI s + nI j).toInt = ((s + j : Nat) : Int) := by
      rw [iadd (by rw [tI (by omega), tI (by omega)]; omega) (by rw [tI (by omega), tI (by omega)]; omega), tI (by omega), tI (by omega)]; omega
    have hmo : (L' o 0).toInt = p := by rw [h3 o ho1]; exact hp
    have hm0 : ¬ L' o 0 = 0 := fun z => by rw [j0, hmo] at z; omega
    refine ⟨h.1, h.ok' hs2 (by omega), hu.ok (by omega), ho, hm0, h.ok' hs2 (by omega), fun L8 e8 v9 e9 => ?_⟩
    rw [ix_of hs2, ixn (by omega), h3 (u + 1) (by omega)] at e8
    have hk := h1 (s + j)
    rw [if_neg (by omega), pl_lt (by omega)] at hk
    have b1 := hr (s + j)
    have b2 := hru2 j
    rw [pl_lt (show j < 13 by omega)] at b2
    have hmul : (v14 * L (u + 1) j).toInt = v14.toInt * (L (u + 1) j).toInt := jmulB (m := 67108864) (n := 67108864) (by rw [h14]; omega) (by omega) (by decide)
    have hmb := mul_ab (show v14.toInt.natAbs ≤ 67108864 by rw [h14]; omega) (show (L (u + 1) j).toInt.natAbs ≤ 67108864 by omega)
    have hnn : 0 ≤ v14.toInt * (L (u + 1) j).toInt := Int.mul_nonneg (by rw [h14]; omega) b2.1
    have hadd : (L' (r + 1) (s + j) + v14 * L (u + 1) j).toInt = pl L r (s + j) + v14.toInt * (L (u + 1) j).toInt := by
      rw [jadd (by rw [hmul, hk]; omega) (by rw [hmul, hk]; omega), hmul, hk]
    refine hC (μ - 1) _ _ _ _ _ (by omega) ⟨j + 1, by omega, rfl, by rw [e9, sI], rfl, fun k => ?_, fun x hx => by rw [e8, u2_off _ _ hx]; exact h3 x hx, hA⟩
    by_cases y : k = s + j
    · subst y
      rw [pl_lt (by omega), e8, u2_self, jrem _ _ (by rw [hadd]; omega), hadd, hmo, Int.tmod_eq_emod_of_nonneg (by omega), if_pos ⟨by omega, by omega⟩, h14, show s + j - s = j by omega, pl_lt (L := L) (r := u) (by omega)]
    · have e3 : pl L8 r k = pl L' r k := by
        by_cases w : k < 13
        · rw [pl_lt w, e8, u2_ne _ _ (fun t => y t.2), pl_lt w]
        · rw [pl, if_neg w, pl, if_neg w]
      rw [e3, h1 k]
      by_cases y2 : s ≤ k ∧ k < s + j
      · rw [if_pos y2, if_pos ⟨y2.1, by omega⟩]
      · rw [if_neg y2, if_neg (fun t => y2 ⟨t.1, by omega⟩)]
set_option maxHeartbeats 1000000 in
/-- takeRest(a, m): the rest by m, whose lead is 1 -/
theorem s_takeRest {o r u e d p : Nat} (ho : cxS K o = shX3 o) (h : isRow K r) (hu : isRow K u) (hru : r ≠ u) (hp : mdl L o = p) (hp1 : 1 < p) (hp2 : p < 67108864) (hr : rsd p (pl L r)) (hru2 : rsd p (pl L u)) (hd : St I L r d) (hn : St I L u (e + 1)) (hm : pl L u e = 1) : ConV K yX3_takeRest wsX3_takeRest 1 26 I L A [.ref o, .ref r, .ref u] (fun I' L' A' => (∃ q, Pf q ∧ cg p (pl L r) (pa (pm q (pl L u)) (pl L' r))) ∧ rsd p (pl L' r) ∧ dl (pl L' r) e ∧ (∃ d', RowN I' L' r d') ∧ ChR (· = r) I I' L L' ∧ A' = A) := by
  have hd13 := hd.2.1
  have he13 := hn.2.1
  have ho1 := x3_ne ho h
  apply w_X3_takeRest
  unfold wp_X3_takeRest
  refine ⟨h.1, hu.1, fun v16 e16 => ?_⟩
  have h16 : v16.toInt = (d : Int) - (e + 1 : Nat) := by
    rw [e16, hd.1, hn.1, isub (by rw [tm1 (by omega), tm1 (by omega)]; omega) (by rw [tm1 (by omega), tm1 (by omega)]; omega), tm1 (by omega), tm1 (by omega)]; omega
  unfold wp_X3_takeRest_10
  refine ⟨fun μ I' L' A' x => (x.toInt = (μ : Int) - 1 ∨ (μ = 0 ∧ x.toInt < 0)) ∧ μ + e ≤ 13 ∧ I' = I ∧ (∃ q, Pf q ∧ cg p (pl L r) (pa (pm q (pl L u)) (pl L' r))) ∧ rsd p (pl L' r) ∧ dl (pl L' r) (μ + e) ∧ (∀ x, x ≠ r + 1 → L' x = L x) ∧ A' = A, d - e, ⟨?_, by omega, rfl, ⟨p0, Pf.z, by rw [pm_0l, pa_comm, pa_0]; exact cg.refl _ _⟩, hr, dl_mono hd.dl (by omega), fun _ _ => rfl, rfl⟩, ?_⟩
  · rcases Nat.lt_or_ge e d with y | y
    · left; rw [h16]; omega
    · right; exact ⟨by omega, by rw [h16]; omega⟩
  rintro μ C hC I' L' A' x ⟨hx, hμ, rfl, ⟨q, hq, hcg⟩, hrs, hdl, h3, hA⟩
  refine ⟨fun z => ⟨h.1, _, s_settle h, ?_⟩, fun z => ?_⟩
  · rw [ilt, li0] at z
    have hμ0 : μ = 0 := by rcases hx with y | y <;> omega
    subst hμ0
    rintro I4 L4 A4 ⟨rfl, rfl, hA4⟩
    exact ⟨⟨q, hq, hcg⟩, hrs, by rw [Nat.zero_add] at hdl; exact hdl, ⟨_, rn_ln (u2_self _ _ _ _)⟩, ⟨fun x hx => u2_off _ _ hx, fun x hx => h3 x (hx r rfl)⟩, hA4.trans hA⟩
  · rw [ilt, li0] at z
    have hx1 : x.toInt = (μ : Int) - 1 := by rcases hx with y | y <;> omega
    obtain ⟨m, rfl⟩ : ∃ m, μ = m + 1 := ⟨μ - 1, by omega⟩
    have hxm : x = nI m := eqn (by rw [hx1]; omega)
    subst hxm
    have hLu : L' (u + 1) = L (u + 1) := h3 (u + 1) (by omega)
    have hplu : pl L' u = pl L u := pl_keep hLu
    have hmo : mdl L' o = p := by unfold mdl; rw [h3 o ho1]; exact hp
    have hs := s_subtractShifted (A := A') (s := m) ho h hu hru hmo hp1 hp2 hrs (by rw [hplu]; exact hru2) (hn.keep rfl hLu) (by omega)
    refine ⟨ho, _, hs, ?_⟩
    rintro I5 L5 A5 ⟨g1, rfl, g3, g4⟩ v13 e13
    rw [hplu] at g1
    have hc0 : cg p (pl L5 r) (pa (pl L' r) (pc (p - pl L' r (m + e)) (pm (pl L u) (mono m 1)))) := fun k => by
      simp only [pa, pc]
      rw [g1 k, mulT]
      by_cases y : m ≤ k ∧ k ≤ m + e
      · rw [if_pos y, if_pos y.1, Int.one_mul]
        exact mod_dvd _ _
      · rw [if_neg y]
        by_cases y2 : m ≤ k
        · rw [if_pos y2, hn.dl (k - m) (by omega)]
          exact ⟨0, by simp⟩
        · rw [if_neg y2]
          exact ⟨0, by simp⟩
    refine hC m _ _ _ _ (by omega) ⟨Or.inl ?_, by omega, rfl, ⟨pa q (pc (-(p - pl L' r (m + e))) (mono m 1)), hq.add (Pf.c _ ⟨m + 1, fun k hk => if_neg (by omega)⟩), ?_⟩, fun k => ?_, fun k hk => ?_, fun x hx => by rw [g3.2 x (fun r' hr' => by rw [hr']; exact hx)]; exact h3 x hx, g4.trans hA⟩
    · rw [e13, iadd (by rw [tI (by omega), lim1]; omega) (by rw [tI (by omega), lim1]; omega), tI (by omega), lim1]; omega
    · refine hcg.trans ?_
      have hc1 := (cg.add (cg.refl (p : Int) (pm (pa q (pc (-(p - pl L' r (m + e))) (mono m 1))) (pl L u))) hc0).symm
      refine cg.trans ?_ hc1
      have e9 : pa (pm (pa q (pc (-(↑p - pl L' r (m + e))) (mono m 1))) (pl L u)) (pa (pl L' r) (pc (↑p - pl L' r (m + e)) (pm (pl L u) (mono m 1)))) = pa (pm q (pl L u)) (pl L' r) := funext fun k => by
        show pm (pa q _) (pl L u) k + (pl L' r k + (↑p - pl L' r (m + e)) * pm (pl L u) (mono m 1) k) = _
        rw [pm_add_l, pm_c_l, pm_comm k (mono m 1)]
        show _ = pm q (pl L u) k + pl L' r k
        rw [Int.neg_mul]; omega
      rw [e9]
      exact cg.refl _ _
    · rw [g1 k]
      split
      · exact ⟨Int.emod_nonneg _ (by omega), Int.emod_lt_of_pos _ (by omega)⟩
      · exact hrs k
    · rw [g1 k]
      by_cases y : k = m + e
      · subst y
        rw [if_pos ⟨by omega, by omega⟩, show m + e - m = e by omega, hm, Int.mul_one]
        rw [show pl L' r (m + e) + (↑p - pl L' r (m + e)) = (p : Int) by omega, Int.emod_self]
      · rw [if_neg (by omega)]
        exact hdl k (by omega)
end
