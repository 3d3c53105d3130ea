/-! THE REFERENCE: cubic, quartic, galois -/
section
variable {K : Cx} {I : TI} {L : TL} {A : TA}
theorem m_cubic {m : Nat} {ja jb jc' jd : Int64} {a b c d : Int} (ha : ja.toInt = a) (hb : jb.toInt = b) (hc : jc'.toInt = c) (hd : jd.toInt = d) (ba : a.natAbs ≤ 300) (bb : b.natAbs ≤ 300) (bc : c.natAbs ≤ 300) (bd : d.natAbs ≤ 300) : ConI K yX7_cubic wsX7_cubic 2 48 I L A [.ref m, .long ja, .long jb, .long jc', .long jd] (fun v I' L' A' => ((v = 3 ∧ Sq (dsI a b c d)) ∨ (v = 4 ∧ ¬ Sq (dsI a b c d))) ∧ I' = I ∧ L' = L ∧ A' = A) := by
  have l4 : jc 4 4 := jc_of rfl
  have l27 : jc 27 27 := jc_of rfl
  have l18 : jc 18 18 := jc_of rfl
  have a' := jc_of ha
  have b' := jc_of hb
  have c' := jc_of hc
  have d' := jc_of hd
  apply w_X7_cubic
  unfold wp_X7_cubic
  intro v1 e1
  have hv : v1.toInt = dsI a b c d := by
    have h1 : jc v1 (18 * a * b * c * d - 4 * b * b * b * d + b * b * c * c - 4 * a * c * c * c - 27 * a * a * d * d) := by
      rw [e1]
      exact ((((((((l18.mul a').mul b').mul c').mul d').sub (((l4.mul b').mul b').mul b' |>.mul d')).add (((b'.mul b').mul c').mul c')).sub ((((l4.mul a').mul c').mul c').mul c')).sub ((((l27.mul a').mul a').mul d').mul d'))
    have e : 18 * a * b * c * d - 4 * b * b * b * d + b * b * c * c - 4 * a * c * c * c - 27 * a * a * d * d = dsI a b c d := by unfold dsI; omega
    rw [e] at h1
    have := dsI_bd ba bb bc bd
    exact h1.eq (by omega) (by omega)
  refine ⟨_, m_isSquare, ?_⟩
  rintro v I1 L1 A1 ⟨hs, rfl, rfl, rfl⟩
  rw [hv] at hs
  exact ⟨fun z => ⟨Or.inr ⟨rfl, way0 hs z⟩, rfl, rfl, rfl⟩, fun z => ⟨Or.inl ⟨rfl, way1 hs z⟩, rfl, rfl, rfl⟩⟩
/-- what the other side answers for a quartic -/
def rqA (a b c d e : Int) (v : Int32) : Prop :=
  ((∀ y, rsv a b c d e y ≠ 0) ∧ ((v = 8 ∧ Sq (rsD a b c d e)) ∨ (v = 9 ∧ ¬ Sq (rsD a b c d e)))) ∨
  ((∃ y z, y ≠ z ∧ rsv a b c d e y = 0 ∧ rsv a b c d e z = 0) ∧ v = 5) ∨
  ∃ r, rsv a b c d e r = 0 ∧ (∀ y, rsv a b c d e y = 0 → y = r) ∧ ((v = 6 ∧ sqB (rsA a b c r) (rsD a b c d e) ∧ sqB (a * a * rsC a e r) (rsD a b c d e)) ∨ (v = 7 ∧ ¬ (sqB (rsA a b c r) (rsD a b c d e) ∧ sqB (a * a * rsC a e r) (rsD a b c d e))))
/-- both answer alike for an irreducible one -/
theorem quartic_same {f : PF} (hf : Irr f.1) (h4 : dgI f.1 4) {v w : Int32} (h1 : rqA (f.1 4) (f.1 3) (f.1 2) (f.1 1) (f.1 0) v) (h2 : qcA (f.1 4) (f.1 3) (f.1 2) (f.1 1) (f.1 0) w) : v = w := by
  rcases h1 with ⟨n1, c1⟩ | ⟨⟨y, z, hyz, hy, hz⟩, rfl⟩ | ⟨r, hr, hu, c1⟩
  · rcases h2 with ⟨-, c2⟩ | ⟨⟨y, z, -, hy, -⟩, -⟩ | ⟨r, hr, -⟩
    · rcases c1 with ⟨rfl, q1⟩ | ⟨rfl, q1⟩ <;> rcases c2 with ⟨rfl, q2⟩ | ⟨rfl, q2⟩ <;> first | rfl | exact absurd q1 q2 | exact absurd q2 q1
    · exact absurd hy (n1 y)
    · exact absurd hr (n1 r)
  · rcases h2 with ⟨n2, -⟩ | ⟨-, rfl⟩ | ⟨r, -, hu, -⟩
    · exact absurd hy (n2 y)
    · rfl
    · exact absurd ((hu y hy).trans (hu z hz).symm) hyz
  · rcases h2 with ⟨n2, -⟩ | ⟨⟨y, z, hyz, hy, hz⟩, -⟩ | ⟨r', hr', hu', c2⟩
    · exact absurd hr (n2 r)
    · exact absurd ((hu y hy).trans (hu z hz).symm) hyz
    · have : r' = r := hu r' hr'
      subst this
      have ha : f.1 4 ≠ 0 := h4.1
      have hD : rsD (f.1 4) (f.1 3) (f.1 2) (f.1 1) (f.1 0) ≠ 0 := by
        refine dsc_ne (B := -f.1 2) (C := rsL (f.1 4) (f.1 3) (f.1 1) (f.1 0)) (D := rsK (f.1 4) (f.1 3) (f.1 2) (f.1 1) (f.1 0)) (r := r') hr ?_ hu
        have := no_dbl hf h4 hr
        intro q
        apply this
        unfold rsL at q
        rw [← q]
        grind
      have hA : sqB (rsA (f.1 4) (f.1 3) (f.1 2) r') (rsD (f.1 4) (f.1 3) (f.1 2) (f.1 1) (f.1 0)) ↔ sqP (rsA (f.1 4) (f.1 3) (f.1 2) r') (rsD (f.1 4) (f.1 3) (f.1 2) (f.1 1) (f.1 0)) := by
        constructor
        · rintro (q | ⟨k, hk⟩ | q)
          · exact Or.inl q
          · by_cases hk0 : k = 0
            · exact Or.inl (by rw [← hk, hk0]; rfl)
            · exact absurd hk.symm (no_sqA hf h4 hr hk0)
          · exact Or.inr (Or.inr q)
        · rintro (q | q | q)
          · exact Or.inl q
          · exact absurd q hD
          · exact Or.inr (Or.inr q)
      have hC : sqB (f.1 4 * f.1 4 * rsC (f.1 4) (f.1 0) r') (rsD (f.1 4) (f.1 3) (f.1 2) (f.1 1) (f.1 0)) ↔ sqP (rsC (f.1 4) (f.1 0) r') (rsD (f.1 4) (f.1 3) (f.1 2) (f.1 1) (f.1 0)) := by
        by_cases hC0 : rsC (f.1 4) (f.1 0) r' = 0
        · exact ⟨fun _ => Or.inl hC0, fun _ => Or.inl (by rw [hC0]; simp)⟩
        · have hbm := beside_mul (x := rsC (f.1 4) (f.1 0) r') (y := rsD (f.1 4) (f.1 3) (f.1 2) (f.1 1) (f.1 0)) ha hC0 hD
          constructor
          · rintro (q | ⟨k, hk⟩ | q)
            · exfalso
              rcases Int.mul_eq_zero.mp q with q | q
              · rcases Int.mul_eq_zero.mp q with q | q <;> exact ha q
              · exact hC0 q
            · exfalso
              have hd : f.1 4 * f.1 4 ∣ k * k := ⟨_, hk⟩
              obtain ⟨t, ht⟩ := sq_dvd_sq hd
              have h5 : f.1 4 * f.1 4 * (t * t) = f.1 4 * f.1 4 * rsC (f.1 4) (f.1 0) r' := by rw [← hk, ht]; grind
              have h6 := Int.eq_of_mul_eq_mul_left (Int.mul_ne_zero ha ha) h5
              exact no_sqC hf h4 hr (m := t) (fun z => hC0 (by rw [← h6, z]; rfl)) h6.symm
            · exact Or.inr (Or.inr (hbm.mp q))
          · rintro (q | q | q)
            · exact absurd q hC0
            · exact absurd q hD
            · exact Or.inr (Or.inr (hbm.mpr q))
      rw [hA, hC] at c1
      rcases c1 with ⟨rfl, q1⟩ | ⟨rfl, q1⟩ <;> rcases c2 with ⟨rfl, q2⟩ | ⟨rfl, q2⟩ <;> first | rfl | exact absurd q1 q2 | exact absurd q2 q1
def FrH (m : Nat) (I I' : TI) (L L' : TL) : Prop := (∀ y, y ≠ m → I' y = I y ∧ L' y = L y) ∧ ∀ k, k ≠ 23 → I' m k = I m k
theorem jc6 {k x1 x2 x3 x4 x5 x6 : Int64} {k' y1 y2 y3 y4 y5 y6 : Int} (h0 : jc k k') (h1 : jc x1 y1) (h2 : jc x2 y2) (h3 : jc x3 y3) (h4 : jc x4 y4) (h5 : jc x5 y5) (h6 : jc x6 y6) : jc ((((((k * x1) * x2) * x3) * x4) * x5) * x6) ((((((k' * y1) * y2) * y3) * y4) * y5) * y6) := (((((h0.mul h1).mul h2).mul h3).mul h4).mul h5).mul h6
set_option maxHeartbeats 4000000 in
theorem m_quartic {m : Nat} {ja jb jc' jd je : Int64} {a b c d e : Int} (hm : isX7 K m) (ha : ja.toInt = a) (hb : jb.toInt = b) (hc : jc'.toInt = c) (hd : jd.toInt = d) (he : je.toInt = e) (ba : a.natAbs ≤ 300) (bb : b.natAbs ≤ 300) (bc : c.natAbs ≤ 300) (bd : d.natAbs ≤ 300) (be : e.natAbs ≤ 300) (ha0 : a ≠ 0) : ConI K yX7_quartic wsX7_quartic 3 87 I L A [.ref m, .long ja, .long jb, .long jc', .long jd, .long je] (fun v I' L' A' => rqA a b c d e v ∧ FrH m I I' L L' ∧ A' = A) := by
  have l4 : jc 4 4 := jc_of rfl
  have l6 : jc 6 6 := jc_of rfl
  have l16 : jc 16 16 := jc_of rfl
  have l18 : jc 18 18 := jc_of rfl
  have l27 : jc 27 27 := jc_of rfl
  have l80 : jc 80 80 := jc_of rfl
  have l128 : jc 128 128 := jc_of rfl
  have l144 : jc 144 144 := jc_of rfl
  have l192 : jc 192 192 := jc_of rfl
  have l256 : jc 256 256 := jc_of rfl
  have a' := jc_of ha
  have b' := jc_of hb
  have c' := jc_of hc
  have d' := jc_of hd
  have e' := jc_of he
  have bL := rsL_bd ba bb bd be
  have bK := rsK_bd ba bb bc bd be
  have bD := rsD_bd ba bb bc bd be
  apply w_X7_quartic
  unfold wp_X7_quartic
  intro v1 e1 v2 e2 v3 e3 v4 e4 v5 e5 v6 e6 v7 e7
  have hv4 : v4.toInt = rsD a b c d e := by
    have g1 : jc v1 (256 * a * a * a * e * e * e - 192 * a * a * b * d * e * e - 128 * a * a * c * c * e * e + 144 * a * a * c * d * d * e) := by
      rw [e1]
      exact (((jc6 l256 a' a' a' e' e' e').sub (jc6 l192 a' a' b' d' e' e')).sub (jc6 l128 a' a' c' c' e' e')).add (jc6 l144 a' a' c' d' d' e')
    have g2 : jc v2 ((256 * a * a * a * e * e * e - 192 * a * a * b * d * e * e - 128 * a * a * c * c * e * e + 144 * a * a * c * d * d * e) - 27 * a * a * d * d * d * d + 144 * a * b * b * c * e * e - 6 * a * b * b * d * d * e - 80 * a * b * c * c * d * e) := by
      rw [e2]
      exact (((g1.sub (jc6 l27 a' a' d' d' d' d')).add (jc6 l144 a' b' b' c' e' e')).sub (jc6 l6 a' b' b' d' d' e')).sub (jc6 l80 a' b' c' c' d' e')
    have g3 := (((g2.add (jc6 l18 a' b' c' d' d' d')).add (jc6 l16 a' c' c' c' c' e')).sub (jc6 l4 a' c' c' c' d' d')).sub (jc6 l27 b' b' b' b' e' e')
    rw [← e3] at g3
    have g4 := (((g3.add (jc6 l18 b' b' b' c' d' e')).sub (jc6 l4 b' b' b' d' d' d')).sub (jc6 l4 b' b' c' c' c' e')).add (((((b'.mul b').mul c').mul c').mul d').mul d')
    rw [← e4] at g4
    have h1 : jc v4 (dsQ a b c d e) := g4
    rw [dsQ_eq] at h1
    have h2 : jc v4 (rsD a b c d e) := h1
    exact h2.eq (by omega) (by omega)
  have hv5 : v5.toInt = a * c := by
    have h1 : jc v5 (a * c) := by rw [e5]; exact a'.mul c'
    have := mul_ab ba bc
    exact h1.eq (by omega) (by omega)
  have hv6 : v6.toInt = a * a * d := by
    have h1 : jc v6 (a * a * d) := by rw [e6]; exact (a'.mul a').mul d'
    have := mul_ab (mul_ab ba ba) bd
    exact h1.eq (by omega) (by omega)
  have hv7 : v7.toInt = a * a * a * e := by
    have h1 : jc v7 (a * a * a * e) := by rw [e7]; exact ((a'.mul a').mul a').mul e'
    have := mul_ab (mul_ab (mul_ab ba ba) ba) be
    exact h1.eq (by omega) (by omega)
  refine ⟨hm.1, fun L9 e9 L10 e10 L11 e11 => ?_⟩
  have hB : (L11 m 20).toInt = a * -c := by
    rw [e11, u2_ne _ _ (by omega), e10, u2_ne _ _ (by omega), e9, u2_self, jneg (by rw [hv5]; have := mul_ab ba bc; omega), hv5]
    grind
  have bB : (a * -c).natAbs ≤ 90000 := by
    have := mul_ab ba (show (-c).natAbs ≤ 300 by omega); omega
  have bC2 : (a * a * rsL a b d e).natAbs ≤ 40500000000 := by
    have := mul_ab (mul_ab ba ba) bL; omega
  have bD2 : (a * a * a * rsK a b c d e).natAbs ≤ 4374000000000000 := by
    have := mul_ab (mul_ab (mul_ab ba ba) ba) bK; omega
  have hC : (L11 m 21).toInt = a * a * rsL a b d e := by
    have h1 : jc (L11 m 21) (b * (a * a * d) - 4 * (a * a * a * e)) := by
      rw [e11, u2_ne _ _ (by omega), e10, u2_self]
      exact (b'.mul (jc_of hv6)).sub (l4.mul (jc_of hv7))
    have e : b * (a * a * d) - 4 * (a * a * a * e) = a * a * rsL a b d e := by unfold rsL; grind
    rw [e] at h1
    exact h1.eq (by omega) (by omega)
  have hD : (L11 m 22).toInt = a * a * a * rsK a b c d e := by
    have h1 : jc (L11 m 22) (4 * (a * c) * (a * a * a * e) - b * b * (a * a * a * e) - a * a * d * (a * a * d)) := by
      rw [e11, u2_self]
      exact (((l4.mul (jc_of hv5)).mul (jc_of hv7)).sub ((b'.mul b').mul (jc_of hv7))).sub ((jc_of hv6).mul (jc_of hv6))
    have e : 4 * (a * c) * (a * a * a * e) - b * b * (a * a * a * e) - a * a * d * (a * a * d) = a * a * a * rsK a b c d e := by unfold rsK; grind
    rw [e] at h1
    exact h1.eq (by omega) (by omega)
  have k11 : ∀ y, y ≠ m → L11 y = L y := fun y hy => by rw [e11, u2_off _ _ hy, e10, u2_off _ _ hy, e9, u2_off _ _ hy]
  refine ⟨_, m_findRoots hm ⟨hB, hC, hD, bB, bC2, bD2⟩, ?_⟩
  rintro I1 L1 A1 ⟨⟨k, hk, hk100, hcase⟩, fG, rfl⟩
  have fH : FrH m I I1 L L1 := ⟨fun y hy => ⟨(fG.1 y hy).1, (fG.1 y hy).2.trans (k11 y hy)⟩, fG.2.1⟩
  -- roots of both
  have dn : ∀ z, cb (a * -c) (a * a * rsL a b d e) (a * a * a * rsK a b c d e) z = 0 → ∃ y, z = a * y ∧ rsv a b c d e y = 0 := fun z hz => stretch (B := -c) (C := rsL a b d e) (D := rsK a b c d e) ha0 hz
  have up : ∀ y, rsv a b c d e y = 0 → cb (a * -c) (a * a * rsL a b d e) (a * a * a * rsK a b c d e) (a * y) = 0 ∧ -600000 ≤ a * y ∧ a * y < 600001 := fun y hy => by
    have h1 := rsv_in ba bb bc bd be hy
    have h2 := mul_ab ba (show y.natAbs ≤ 1342 by omega)
    refine ⟨?_, by omega, by omega⟩
    have e : cb (a * -c) (a * a * rsL a b d e) (a * a * a * rsK a b c d e) (a * y) = a * a * a * rsv a b c d e y := by rw [rsv_def]; unfold cb; grind
    rw [e, hy]; simp
  rw [hk]
  refine ⟨fun z => ?_, fun z => ⟨fun z2 => ?_, fun z2 => ?_⟩⟩
  · have hk0 : k = 0 := by rw [← Int32.toInt_inj, tI (by omega), li0] at z; omega
    have hno : ∀ y, rsv a b c d e y ≠ 0 := fun y hy => by
      obtain ⟨u1, u2, u3⟩ := up y hy
      rcases hcase with ⟨-, q⟩ | ⟨q, -⟩
      · exact q _ u2 u3 u1
      · omega
    refine ⟨_, m_isSquare, ?_⟩
    rintro v I2 L2 A2 ⟨hv, rfl, rfl, rfl⟩
    rw [hv4] at hv
    exact ⟨fun w => ⟨Or.inl ⟨hno, Or.inr ⟨rfl, way0 hv w⟩⟩, fH, rfl⟩, fun w => ⟨Or.inl ⟨hno, Or.inl ⟨rfl, way1 hv w⟩⟩, fH, rfl⟩⟩
  · have hk1 : k = 1 := by
      rw [← Int32.toInt_inj, tI (by omega), li0] at z
      rw [ile, tI (by omega), li1] at z2
      omega
    intro v17 e17
    obtain ⟨hl, hu⟩ : cb (a * -c) (a * a * rsL a b d e) (a * a * a * rsK a b c d e) v17.toInt = 0 ∧ ∀ z, -600000 ≤ z → z < 600001 → cb (a * -c) (a * a * rsL a b d e) (a * a * a * rsK a b c d e) z = 0 → z = v17.toInt := by
      rw [e17]
      rcases hcase with ⟨q, -⟩ | ⟨-, q1, -, q2⟩
      · omega
      · rcases q2 with ⟨-, q2⟩ | ⟨q2, -⟩
        · exact ⟨q1, q2⟩
        · omega
    obtain ⟨r, hzr, hr⟩ := dn _ hl
    have hur : ∀ y, rsv a b c d e y = 0 → y = r := fun y hy => by
      obtain ⟨u1, u2, u3⟩ := up y hy
      have h1 := hu _ u2 u3 u1
      rw [hzr] at h1
      exact Int.eq_of_mul_eq_mul_left ha0 h1
    have hrb := rsv_in ba bb bc bd be hr
    have bA := rsA_bd ba bb bc hrb
    have bCr := rsC_bd ba be hrb
    have bC3 : (a * a * rsC a e r).natAbs ≤ 300 * 300 * 34359738368 := mul_ab (mul_ab ba ba) (by omega)
    have hx1 : ((jb * jb) - (4 * (v5 - v17))).toInt = rsA a b c r := by
      have h1 : jc ((jb * jb) - (4 * (v5 - v17))) (b * b - 4 * (a * c - a * r)) := (b'.mul b').sub (l4.mul ((jc_of hv5).sub (jc_of hzr)))
      have e : b * b - 4 * (a * c - a * r) = rsA a b c r := by unfold rsA; grind
      rw [e] at h1
      exact h1.eq (by omega) (by omega)
    have hx2 : ((v17 * v17) - (4 * v7)).toInt = a * a * rsC a e r := by
      have h1 : jc ((v17 * v17) - (4 * v7)) (a * r * (a * r) - 4 * (a * a * a * e)) := ((jc_of hzr).mul (jc_of hzr)).sub (l4.mul (jc_of hv7))
      have e : a * r * (a * r) - 4 * (a * a * a * e) = a * a * rsC a e r := by unfold rsC; grind
      rw [e] at h1
      exact h1.eq (by omega) (by omega)
    refine ⟨_, m_isSquareBeside (by rw [hx1]; omega) (by rw [hv4]; exact bD), ?_⟩
    rintro v I2 L2 A2 ⟨hv, rfl, rfl, rfl⟩
    rw [hx1, hv4] at hv
    refine ⟨fun w => ⟨Or.inr (Or.inr ⟨r, hr, hur, Or.inr ⟨rfl, fun t => way0 hv w t.1⟩⟩), fH, rfl⟩, fun w => ⟨_, m_isSquareBeside (by rw [hx2]; omega) (by rw [hv4]; exact bD), ?_⟩⟩
    have hv' := way1 hv w
    rintro v' I3 L3 A3 ⟨hw, rfl, rfl, rfl⟩
    rw [hx2, hv4] at hw
    exact ⟨fun w2 => ⟨Or.inr (Or.inr ⟨r, hr, hur, Or.inr ⟨rfl, fun t => way0 hw w2 t.2⟩⟩), fH, rfl⟩, fun w2 => ⟨Or.inr (Or.inr ⟨r, hr, hur, Or.inl ⟨rfl, hv', way1 hw w2⟩⟩), fH, rfl⟩⟩
  · rw [ile, tI (by omega), li1] at z2
    refine ⟨Or.inr (Or.inl ⟨?_, rfl⟩), fH, rfl⟩
    obtain ⟨y, z, hyz, hy, hz⟩ : ∃ y z, y ≠ z ∧ cb (a * -c) (a * a * rsL a b d e) (a * a * a * rsK a b c d e) y = 0 ∧ cb (a * -c) (a * a * rsL a b d e) (a * a * a * rsK a b c d e) z = 0 := by
      rcases hcase with ⟨q, -⟩ | ⟨-, -, -, q⟩
      · omega
      · rcases q with ⟨q, -⟩ | ⟨-, q⟩
        · omega
        · exact q
    obtain ⟨y1, e1', h1⟩ := dn y hy
    obtain ⟨z1, e2', h2⟩ := dn z hz
    exact ⟨y1, z1, fun q => hyz (by rw [e1', e2', q]), h1, h2⟩
end
