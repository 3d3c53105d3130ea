/-! becomeQuotient: the division -/
section
variable {K : Cx} {I : TI} {L : TL} {A : TA}
/-- q is a quotient of a by b, none of its coefficients above 10^6 -/
def quo (a b q : PP) : Prop := Pf q ∧ pm b q = a ∧ ∀ k, (q k).natAbs ≤ 1000000
theorem lim1 : (-1 : Int32).toInt = -1 := by decide
theorem li1e6 : (1000000 : Int64).toInt = 1000000 := by decide
theorem mulT {b : PP} (k : Nat) (c : Int) (t : Nat) : pm b (mono k c) t = if k ≤ t then c * b (t - k) else 0 := by rw [pm_comm, pm_mono]
set_option maxHeartbeats 2000000 in
theorem s_becomeQuotient {q a b t da e MA MB : Nat} (hq : isRow K q) (ha : isRow K a) (hb : isRow K b) (ht : isRow K t) (hqa : q ≠ a) (hqb : q ≠ b) (hqt : q ≠ t) (hta : t ≠ a) (htb : t ≠ b) (sa : St I L a da) (sb : St I L b (e + 1)) (hlead : pl L b e ≠ 0)
    (hMA : ∀ k, (pl L a k).natAbs ≤ MA) (hMB : ∀ k, (pl L b k).natAbs ≤ MB) (hA1 : MA ≤ 1000000000000000) (hB1 : MB ≤ 1000000000) :
    ConI K yX4_becomeQuotient wsX4_becomeQuotient 2 61 I L A [.ref q, .ref a, .ref b, .ref t] (fun v I' L' A' => ((v = 1 ∧ quo (pl L a) (pl L b) (pl L' q) ∧ I' q 1 = tpI (ln (L' (q + 1)) 13)) ∨ (v = 0 ∧ ∀ x, ¬ quo (pl L a) (pl L b) x)) ∧ tk I' q ∧ tk I' t ∧ ChR (fun x => x = q ∨ x = t) I I' L L' ∧ A' = A) := by
  have hda := sa.2.1
  have hdb := sb.2.1
  apply w_X4_becomeQuotient
  unfold wp_X4_becomeQuotient
  refine ⟨hq.1, _, s_clear hq, ?_⟩
  rintro I1 L1 A1 ⟨hz1, hc1, hA1'⟩
  have hc1 : ChR (fun x => x = q ∨ x = t) I I1 L L1 := hc1.mono (fun _ h => Or.inl h)
  have nS : ∀ {x}, x ≠ q → x ≠ t → ¬ (x = q ∨ x = t) := fun h1 h2 h => h.elim h1 h2
  have na := nS (Ne.symm hqa) (Ne.symm hta)
  have nb := nS (Ne.symm hqb) (Ne.symm htb)
  refine ⟨ht.1, _, s_become ht ha, ?_⟩
  rintro I2 L2 A2 ⟨rfl, rfl, hA2⟩
  have hc2 : ChR (fun x => x = q ∨ x = t) I (u2 I1 t 1 (I1 a 1)) L (us L1 (t + 1) (L1 (a + 1))) := hc1.trans (ChR.mono become_ch (fun _ h => Or.inr h))
  have hb2 := sb.ch hc2 nb
  have ha2 := sa.ch hc2 na
  refine ⟨hb.1, _, s_lead hb hb2.1 hdb, ?_⟩
  rintro v I3 L3 A3 ⟨hv, hI3, hL3, hA3⟩
  rw [if_neg (by omega), Nat.add_sub_cancel, hc2.l nb] at hv
  have hvi : v.toInt = pl L b e := by rw [hv, pl_lt (by omega)]
  have hv0 : ¬ v = 0 := fun z => hlead (by rw [← hvi, z]; rfl)
  refine ⟨fun z => absurd z hv0, fun _ => ⟨ha.1, fun v51 e51 => ?_⟩⟩
  rw [hI3, ha2.1, hb2.1] at e51
  have hAA : A3 = A := by rw [hA3, hA2, hA1']
  have hx0 : v51.toInt = (da : Int) - (e + 1 : Nat) := by
    rw [e51, isub (by rw [tm1 (by omega), tm1 (by omega)]; omega) (by rw [tm1 (by omega), tm1 (by omega)]; omega), tm1 (by omega), tm1 (by omega)]; omega
  unfold wp_X4_becomeQuotient_35
  refine ⟨fun μ I' L' A' x k => μ ≤ 13 ∧ (k.toInt = (μ : Int) - 1 ∨ (μ = 0 ∧ k.toInt < 0)) ∧ μ + e ≤ 13 ∧ v = x ∧ I' q 1 = tpI 0 ∧ I' t 1 = tpI da ∧ ChR (fun x => x = q ∨ x = t) I I' L L' ∧ (∀ j, pl L' t j = pl L a j - pm (pl L b) (pl L' q) j) ∧ (∀ j, j < μ → pl L' q j = 0) ∧ dl (pl L' t) (μ + e) ∧ (∀ j, (pl L' q j).natAbs ≤ 1000000) ∧ (∀ j, (pl L' t j).natAbs ≤ MA + (13 - μ) * (1000000 * MB)) ∧ (∀ z, quo (pl L a) (pl L b) z → ∀ j, μ ≤ j → z j = pl L' q j) ∧ A' = A, da - e, ?_, ?_⟩
  · have hqr : pl L3 q = p0 := funext fun j => by
      by_cases y : j < 13
      · rw [pl_lt y, hL3, us_ne _ _ (by omega), hz1.1 j y]; rfl
      · exact if_neg y
    have htr : pl L3 t = pl L a := funext fun j => by
      by_cases y : j < 13
      · rw [pl_lt y, hL3, us_self, hc1.l na, pl_lt y]
      · rw [pl, if_neg y, pl, if_neg y]
    refine ⟨by omega, ?_, by omega, rfl, ?_, ?_, ?_, fun j => ?_, fun j _ => by rw [hqr]; rfl, ?_, fun j => by rw [hqr]; simp [p0], fun j => ?_, fun z hz j hj => ?_, hAA⟩
    · rcases Nat.lt_or_ge e da with y | y
      · left; rw [hx0]; omega
      · right; exact ⟨by omega, by rw [hx0]; omega⟩
    · rw [hI3, u2_ne _ _ (fun y => hqt y.1), hz1.2]; decide
    · rw [hI3, u2_self, hc1.i na]; exact sa.1
    · rw [hI3, hL3]; exact hc2
    · rw [htr, hqr, show pm (pl L b) p0 = p0 from funext fun i => by rw [pm_comm, pm_0l]]; simp [p0]
    · rw [htr]; exact dl_mono sa.dl (by omega)
    · rw [htr]; have := hMA j; omega
    · -- an exact quotient ends below da - e
      rw [hqr]
      obtain ⟨hz1, hz2, hz3⟩ := hz
      by_cases y : z j = 0
      · rw [y]; rfl
      · have hzne : z ≠ p0 := fun w => y (by rw [w]; rfl)
        obtain ⟨n, hn⟩ := hz1.dg hzne
        have hbd : dgI (pl L b) e := ⟨hlead, sb.dl⟩
        have h1 : dgI (pl L a) (e + n) := by rw [← hz2]; exact hbd.mul hn
        have h2 := h1.lt sa.dl
        have h3 : j ≤ n := by
          rcases Nat.lt_or_ge n j with w | w
          · exact absurd (hn.2 j w) y
          · exact w
        omega
  rintro μ C hC I' L' A' _ k ⟨hμ, hk, hμe, rfl, hIq, hIt, hc, hR, hQ0, hRd, hQb, hRb, hu, hA'⟩
  have hdiv : ∀ x y : Nat, x ≤ y → x * (1000000 * MB) ≤ y * (1000000 * MB) := fun x y h => Nat.mul_le_mul_right _ h
  have hd13 := hdiv (13 - μ) 13 (by omega)
  refine ⟨fun hneg => ⟨hq.1, _, s_settle hq, ?_⟩, fun hnn => ?_⟩
  · rw [ilt, li0] at hneg
    have hμ0 : μ = 0 := by rcases hk with y | y <;> omega
    subst hμ0
    rintro I5 L5 A5 ⟨rfl, rfl, hA5⟩
    refine ⟨ht.1, _, s_settle ht, ?_⟩
    rintro I6 L6 A6 ⟨rfl, rfl, hA6⟩
    have hcc : ChR (fun x => x = q ∨ x = t) I (u2 (u2 I' q 1 (tpI (ln (L6 (q + 1)) 13))) t 1 (tpI (ln (L6 (t + 1)) 13))) L L6 := (hc.trans (ChR.mono (ch_u2 _) (fun _ h => Or.inl h))).trans (ChR.mono (ch_u2 _) (fun _ h => Or.inr h))
    have htop : u2 (u2 I' q 1 (tpI (ln (L6 (q + 1)) 13))) t 1 (tpI (ln (L6 (t + 1)) 13)) q 1 = tpI (ln (L6 (q + 1)) 13) := by
      rw [u2_ne _ _ (fun y => hqt y.1), u2_self]
    have hAf : A6 = A := by rw [hA6, hA5, hA']
    rw [u2_self]
    have ht0 := ln_le (L6 (t + 1)) 13
    refine ⟨fun y => ?_, fun y => ?_⟩
    · refine ⟨Or.inr ⟨rfl, fun z hz => ?_⟩, ⟨_, ln_le _ 13, htop⟩, ⟨_, ln_le _ 13, u2_self _ _ _ _⟩, hcc, hAf⟩
      have hzq : z = pl L6 q := funext fun j => hu z hz j (Nat.zero_le j)
      have hz0 : ∀ j, pl L6 t j = 0 := fun j => by rw [hR j, ← hzq, hz.2.1]; omega
      have hl0 : ln (L6 (t + 1)) 13 = 0 := by
        rcases hcas : ln (L6 (t + 1)) 13 with _ | n
        · rfl
        · have hn := ln_top _ 13 n hcas
          have := hz0 n
          rw [pl_lt (by omega)] at this
          exact absurd (j0.mpr this) hn
      rw [hl0] at y
      exact absurd y (by decide)
    · have hl0 : ln (L6 (t + 1)) 13 = 0 := by
        rcases hcas : ln (L6 (t + 1)) 13 with _ | n
        · rfl
        · rw [hcas, tp_s, ile, li0, tI (by omega)] at y
          omega
      have hz0 : ∀ j, pl L6 t j = 0 := fun j => by
        by_cases w : j < 13
        · rw [pl_lt w, ln_out (L6 (t + 1)) 13 j (by omega) w]; rfl
        · exact if_neg w
      refine ⟨Or.inl ⟨rfl, ⟨⟨13, fun j hj => if_neg (by omega)⟩, funext fun j => ?_, hQb⟩, htop⟩, ⟨_, ln_le _ 13, htop⟩, ⟨_, ln_le _ 13, u2_self _ _ _ _⟩, hcc, hAf⟩
      have := hR j
      rw [hz0 j] at this
      omega
  · rw [ilt, li0] at hnn
    have hkm : k.toInt = (μ : Int) - 1 := by rcases hk with y | y <;> omega
    have hμ1 : 1 ≤ μ := by omega
    obtain ⟨m, rfl⟩ : ∃ m, μ = m + 1 := ⟨μ - 1, by omega⟩
    have hkm : k = nI m := eqn (by rw [hkm]; omega)
    subst hkm
    have hIb : I' b 1 = tpI (e + 1) := (sb.ch hc nb).1
    have hsum : (nI m + I' b 1).toInt = ((m + e : Nat) : Int) := by
      rw [hIb, tp_s, iadd (by rw [tI (by omega), tI (by omega)]; omega) (by rw [tI (by omega), tI (by omega)]; omega), tI (by omega), tI (by omega)]; omega
    refine ⟨ht.1, hb.1, ht.ok' hsum (by omega), fun v24 e24 => ⟨hv0, fun v26 e26 => ⟨hv0, fun hdvd => ⟨fun hsafe => ?_, fun hns => ?_⟩, fun hnd => ?_⟩⟩⟩
    all_goals rw [ix_of hsum] at e24
    all_goals have h24 : v24.toInt = pl L' t (m + e) := by rw [e24, pl_lt (by omega)]
    all_goals have hb24 := hRb (m + e)
    all_goals rw [← h24] at hb24
    all_goals have hlo : -9223372036854775808 < v24.toInt := by
                have : 13 * (1000000 * MB) ≤ 13 * (1000000 * 1000000000) := Nat.mul_le_mul_left 13 (Nat.mul_le_mul_left 1000000 hB1)
                omega
    all_goals have h26 : v26.toInt = (pl L' t (m + e)).tdiv (pl L b e) := by rw [e26, jdiv hlo, h24, hvi]
    -- what an exact quotient says of this place
    all_goals have hex : ∀ z, quo (pl L a) (pl L b) z → pl L' t (m + e) = pl L b e * z m := by
                intro z hz
                have e1 := hR (m + e)
                have e2 : pl L a = pm (pl L b) z := hz.2.1.symm
                rw [e2] at e1
                have e3 : z = pa (pl L' q) (ct z (m + 1)) := funext fun j => by
                  show z j = pl L' q j + ct z (m + 1) j
                  by_cases w : j < m + 1
                  · rw [ct_lt w, hQ0 j w]; omega
                  · rw [ct_dl z (m + 1) j (by omega), hu z hz j (by omega)]; omega
                have e4 : pm (pl L b) z (m + e) = pm (pl L b) (pl L' q) (m + e) + pm (pl L b) (ct z (m + 1)) (m + e) := by
                  conv => lhs; rw [e3]
                  exact pm_add_r (pl L b) _ _ _ _
                have e5 : pm (pl L b) (ct z (m + 1)) (m + e) = pl L b e * z m := by
                  rw [show m + e = e + m by omega, pm_top e (pl L b) (ct z (m + 1)) m sb.dl (ct_dl z (m + 1)), ct_lt (by omega)]
                rw [e4, e5] at e1
                omega
    · -- it goes on
      rw [jle, li1e6, absJ_i (by rw [h26]; have := tdiv_le (pl L' t (m + e)) (pl L b e); rw [← h24] at this ⊢; omega)] at hsafe
      have hdv : pl L' t (m + e) = pl L b e * v26.toInt := by
        rw [j0, jrem v24 v hlo, h24, hvi] at hdvd
        rw [h26]
        exact (Int.mul_tdiv_cancel' (Int.dvd_of_tmod_eq_zero hdvd)).symm
      refine ⟨hq.1, hq.ok (by omega), fun L30 e30 => ?_⟩
      rw [ixn (by omega)] at e30
      have hcL : ChR (fun x => x = q ∨ x = t) I I' L L30 := ⟨hc.1, fun x hx => by rw [e30, u2_off _ _ (hx q (Or.inl rfl))]; exact hc.2 x hx⟩
      have hq30 : pl L30 q = pa (pl L' q) (mono m v26.toInt) := funext fun j => by
        show pl L30 q j = pl L' q j + (if j = m then v26.toInt else 0)
        by_cases w : j < 13
        · rw [pl_lt w, e30]
          by_cases w2 : j = m
          · subst w2
            rw [u2_self, if_pos rfl, hQ0 j (by omega)]; omega
          · rw [u2_ne _ _ (fun y => w2 y.2), if_neg w2, pl_lt w]; omega
        · rw [pl, if_neg w, pl, if_neg w, if_neg (by omega)]; rfl
      unfold wp_X4_becomeQuotient_97
      refine ⟨fun ν I'' L'' A'' x4 x6 x9 x11 => ∃ j : Nat, j + ν = e + 1 ∧ v = x4 ∧ x6 = nI m ∧ v26 = x9 ∧ x11 = nI j ∧ I'' = I' ∧ ChR (fun x => x = q ∨ x = t) I I'' L L'' ∧ L'' (q + 1) = L30 (q + 1) ∧ (∀ i, pl L'' t i = pl L' t i - (if m ≤ i ∧ i < m + j then v26.toInt * pl L b (i - m) else 0)) ∧ A'' = A, e + 1, ⟨0, by omega, rfl, rfl, rfl, rfl, rfl, hcL, rfl, fun i => ?_, hA'⟩, ?_⟩
      · rw [if_neg (by omega)]
        have : L30 (t + 1) = L' (t + 1) := by rw [e30, u2_off _ _ (by omega)]
        rw [pl_keep this]; omega
      rintro ν C' hC' I'' L'' A'' _ _ _ _ ⟨j, hj, rfl, rfl, rfl, rfl, rfl, hc3, hLq, hT, hA3⟩
      have hIb' : I'' b 1 = tpI (e + 1) := (sb.ch hc3 nb).1
      refine ⟨hb.1, fun hend v2 e2 => ?_, fun hmore => ?_⟩
      · rw [hIb', tp_lt (by omega) (by omega)] at hend
        have hje : j = e + 1 := by omega
        subst hje
        have hq4 : pl L'' q = pa (pl L' q) (mono m v26.toInt) := by rw [pl_keep hLq, hq30]
        have hT2 : ∀ i, pl L'' t i = pl L' t i - pm (pl L b) (mono m v26.toInt) i := fun i => by
          rw [hT i, mulT]
          by_cases w : m ≤ i
          · rw [if_pos w]
            by_cases w2 : i < m + (e + 1)
            · rw [if_pos ⟨w, w2⟩]
            · rw [if_neg (fun y => w2 y.2), sb.dl (i - m) (by omega)]; simp
          · rw [if_neg w, if_neg (fun y => w y.1)]
        refine hC m _ _ _ _ _ (by omega) ⟨by omega, Or.inl ?_, by omega, rfl, hIq, hIt, hc3, fun i => ?_, fun i hi => ?_, fun i hi => ?_, fun i => ?_, fun i => ?_, fun z hz i hi => ?_, hA3⟩
        · rw [e2, iadd (by rw [tI (by omega), lim1]; omega) (by rw [tI (by omega), lim1]; omega), tI (by omega), lim1]; omega
        · rw [hT2, hR i, hq4, pm_add_r (pl L b)]; omega
        · rw [hq4]
          show pl L' q i + (if i = m then v26.toInt else 0) = 0
          rw [hQ0 i (by omega), if_neg (by omega)]; rfl
        · rw [hT2, mulT]
          by_cases w : i = m + e
          · subst w
            rw [if_pos (by omega), show m + e - m = e by omega, hdv, Int.mul_comm]; omega
          · rw [hRd i (by omega)]
            by_cases w2 : m ≤ i
            · rw [if_pos w2, sb.dl (i - m) (by omega)]; simp
            · omega
        · rw [hq4]
          show (pl L' q i + (if i = m then v26.toInt else 0)).natAbs ≤ 1000000
          by_cases w : i = m
          · subst w
            rw [hQ0 i (by omega), if_pos rfl]; omega
          · rw [if_neg w, Int.add_zero]; exact hQb i
        · rw [hT2, mulT]
          have b1 := hRb i
          have b2 : (if m ≤ i then v26.toInt * pl L b (i - m) else 0).natAbs ≤ 1000000 * MB := by
            split
            · exact mul_ab (by omega) (hMB _)
            · simp
          have b3 : (13 - m) * (1000000 * MB) = (13 - (m + 1)) * (1000000 * MB) + 1000000 * MB := by
            rw [show 13 - m = (13 - (m + 1)) + 1 by omega, Nat.add_mul, Nat.one_mul]
          omega
        · rw [hq4]
          show z i = pl L' q i + (if i = m then v26.toInt else 0)
          by_cases w : i = m
          · subst w
            rw [if_pos rfl, hQ0 i (by omega)]
            have e5 := hex z hz
            rw [hdv] at e5
            have := Int.eq_of_mul_eq_mul_left hlead e5
            omega
          · rw [if_neg w, Int.add_zero]; exact hu z hz i (by omega)
      · rw [hIb', tp_lt (by omega) (by omega)] at hmore
        have hs2 : (nI m + nI j).toInt = ((m + j : Nat) : Int) := by
          rw [iadd (by rw [tI (by omega), tI (by omega)]; omega) (by rw [tI (by omega), tI (by omega)]; omega), tI (by omega), tI (by omega)]; omega
        refine ⟨ht.1, ht.ok' hs2 (by omega), hb.ok (by omega), ht.ok' hs2 (by omega), fun L7 e7 v8 e8 => ?_⟩
        rw [ix_of hs2, ixn (by omega), hc3.l nb] at e7
        refine hC' (ν - 1) _ _ _ _ _ _ _ (by omega) ⟨j + 1, by omega, rfl, rfl, rfl, by rw [e8, sI], rfl, ⟨hc3.1, fun x hx => by rw [e7, u2_off _ _ (hx t (Or.inr rfl))]; exact hc3.2 x hx⟩, by rw [e7, u2_off _ _ (by omega)]; exact hLq, fun i => ?_, hA3⟩
        by_cases w : i < 13
        · by_cases w2 : i = m + j
          · subst w2
            have e9 := hT (m + j)
            rw [if_neg (by omega), Int.sub_zero] at e9
            have b1 := hRb (m + j)
            have b2 := hMB j
            rw [← e9, pl_lt w] at b1
            rw [pl_lt (show j < 13 by omega)] at b2
            have b3 : 13 * (1000000 * MB) ≤ 13 * (1000000 * 1000000000) := Nat.mul_le_mul_left 13 (Nat.mul_le_mul_left 1000000 hB1)
            have b4 : (v26 * L (b + 1) j).toInt = v26.toInt * (L (b + 1) j).toInt := jmulB (m := 1000000) (n := MB) (by omega) b2 (by omega)
            have b5 := mul_ab (show v26.toInt.natAbs ≤ 1000000 by omega) b2
            rw [pl_lt w, e7, u2_self, jsub (by rw [b4]; omega) (by rw [b4]; omega), b4, if_pos ⟨by omega, by omega⟩, show m + j - m = j by omega, ← e9, pl_lt w, pl_lt (show j < 13 by omega)]
          · rw [pl_lt w, e7, u2_ne _ _ (fun y => w2 y.2), ← pl_lt (r := t) w, hT i]
            congr 1
            by_cases w3 : m ≤ i ∧ i < m + j
            · rw [if_pos w3, if_pos ⟨w3.1, by omega⟩]
            · rw [if_neg w3, if_neg (fun y => w3 ⟨y.1, by omega⟩)]
        · have e9 := hT i
          rw [if_neg (by omega)] at e9
          rw [if_neg (by omega)]
          rw [pl, if_neg w] at e9 ⊢
          exact e9
    · refine ⟨Or.inr ⟨rfl, fun z hz => hns ?_⟩, ⟨0, by omega, hIq⟩, ⟨da, hda, hIt⟩, hc, hA'⟩
      have e5 := hex z hz
      rw [jle, li1e6, absJ_i (by rw [h26]; have := tdiv_le (pl L' t (m + e)) (pl L b e); rw [← h24] at this ⊢; omega), h26, e5, Int.mul_tdiv_cancel_left _ hlead]
      have := hz.2.2 m
      omega
    · refine ⟨Or.inr ⟨rfl, fun z hz => hnd ?_⟩, ⟨0, by omega, hIq⟩, ⟨da, hda, hIt⟩, hc, hA'⟩
      have e5 := hex z hz
      rw [j0, jrem v24 v hlo, h24, hvi, e5]
      exact Int.mul_tmod_right _ _
end
