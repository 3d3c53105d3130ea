/-! GROUPS: quartics, galois -/
section
variable {K : Cx} {I : TI} {L : TL} {A : TA}
def rsL (a b d e : Int) : Int := b * d - 4 * a * e
def rsK (a b c d e : Int) : Int := (4 * a * c - b * b) * e - a * d * d
def rsD (a b c d e : Int) : Int := dsI 1 (-c) (rsL a b d e) (rsK a b c d e)
theorem rsv_def (a b c d e y : Int) : rsv a b c d e y = ((y + -c) * y + rsL a b d e) * y + rsK a b c d e := rfl
/-- what is answered for a quartic -/
def qcA (a b c d e : Int) (v : Int32) : Prop :=
  ((∀ y, rsv a b c d e y ≠ 0) ∧ ((v = 8 ∧ Sq (rsD a b c d e)) ∨ (v = 9 ∧ ¬ Sq (rsD a b c d e)))) ∨
  ((∃ y z, y ≠ z ∧ rsv a b c d e y = 0 ∧ rsv a b c d e z = 0) ∧ v = 5) ∨
  ∃ r, rsv a b c d e r = 0 ∧ (∀ y, rsv a b c d e y = 0 → y = r) ∧ ((v = 6 ∧ sqP (rsA a b c r) (rsD a b c d e) ∧ sqP (rsC a e r) (rsD a b c d e)) ∨ (v = 7 ∧ ¬ (sqP (rsA a b c r) (rsD a b c d e) ∧ sqP (rsC a e r) (rsD a b c d e))))
theorem rsL_bd {a b d e : Int} (ha : a.natAbs ≤ 300) (hb : b.natAbs ≤ 300) (hd : d.natAbs ≤ 300) (he : e.natAbs ≤ 300) : (rsL a b d e).natAbs ≤ 450000 := by
  have t1 := mul_ab hb hd
  have t2 := mul_ab (mul_ab (a := 4) (m := 4) (by decide) ha) he
  unfold rsL; omega
theorem rsK_bd {a b c d e : Int} (ha : a.natAbs ≤ 300) (hb : b.natAbs ≤ 300) (hc : c.natAbs ≤ 300) (hd : d.natAbs ≤ 300) (he : e.natAbs ≤ 300) : (rsK a b c d e).natAbs ≤ 162000000 := by
  have t1 := mul_ab (mul_ab (a := 4) (m := 4) (by decide) ha) hc
  have t2 := mul_ab hb hb
  have t3 : (4 * a * c - b * b).natAbs ≤ 450000 := by omega
  have t4 := mul_ab t3 he
  have t5 := mul_ab (mul_ab ha hd) hd
  unfold rsK; omega
theorem rsD_bd {a b c d e : Int} (ha : a.natAbs ≤ 300) (hb : b.natAbs ≤ 300) (hc : c.natAbs ≤ 300) (hd : d.natAbs ≤ 300) (he : e.natAbs ≤ 300) : (rsD a b c d e).natAbs < 4611686018427387904 := by
  have := dsI_bd (a := 1) (b := -c) (Aa := 1) (B := 300) (by decide) (by omega) (rsL_bd ha hb hd he) (rsK_bd ha hb hc hd he)
  unfold rsD; omega
theorem rsv_in {a b c d e y : Int} (ha : a.natAbs ≤ 300) (hb : b.natAbs ≤ 300) (hc : c.natAbs ≤ 300) (hd : d.natAbs ≤ 300) (he : e.natAbs ≤ 300) (h : rsv a b c d e y = 0) : -1342 ≤ y ∧ y ≤ 1342 := by
  have t1 := rsL_bd ha hb hd he
  have t2 := rsK_bd ha hb hc hd he
  rw [rsv_def] at h
  exact root_bd (B := -c) (by omega) (by omega) (by omega) h
theorem rsA_bd {a b c r : Int} (ha : a.natAbs ≤ 300) (hb : b.natAbs ≤ 300) (hc : c.natAbs ≤ 300) (hr : -1342 ≤ r ∧ r ≤ 1342) : (rsA a b c r).natAbs < 34359738368 := by
  have t1 := mul_ab hb hb
  have t2 := mul_ab (mul_ab (a := 4) (m := 4) (by decide) ha) (show (c - r).natAbs ≤ 1642 by omega)
  unfold rsA; omega
theorem rsC_bd {a e r : Int} (ha : a.natAbs ≤ 300) (he : e.natAbs ≤ 300) (hr : -1342 ≤ r ∧ r ≤ 1342) : (rsC a e r).natAbs < 34359738368 := by
  have t1 := mul_ab (show r.natAbs ≤ 1342 by omega) (show r.natAbs ≤ 1342 by omega)
  have t2 := mul_ab (mul_ab (a := 4) (m := 4) (by decide) ha) he
  unfold rsC; omega
theorem s_isCycle {u : Nat} {r D : Int64} {ri Di : Int} (h : isRow K u) (hb : ∀ k, (pl L u k).natAbs ≤ 300) (hr : r.toInt = ri) (hrb : -1342 ≤ ri ∧ ri ≤ 1342) (hD : D.toInt = Di) (hDb : Di.natAbs < 4611686018427387904) : ConI K yX1_isCycle wsX1_isCycle 3 95 I L A [.ref u, .long r, .long D] (fun v I' L' A' => ((v = 1 ∧ (sqP (rsA (pl L u 4) (pl L u 3) (pl L u 2) ri) Di ∧ sqP (rsC (pl L u 4) (pl L u 0) ri) Di)) ∨ (v = 0 ∧ ¬ (sqP (rsA (pl L u 4) (pl L u 3) (pl L u 2) ri) Di ∧ sqP (rsC (pl L u 4) (pl L u 0) ri) Di))) ∧ I' = I ∧ L' = L ∧ A' = A) := by
  have l4 : jc 4 4 := jc_of rfl
  have bA := rsA_bd (hb 4) (hb 3) (hb 2) hrb
  have bC := rsC_bd (hb 4) (hb 0) hrb
  apply w_X1_isCycle
  unfold wp_X1_isCycle
  refine ⟨h.1, _, s_at' (k := 3) h (by decide) (by omega), ?_⟩
  rintro v3 I1 L1 A1 ⟨h3, rfl, rfl, rfl⟩
  refine ⟨_, s_at' (k := 3) h (by decide) (by omega), ?_⟩
  rintro v3' I1 L1 A1 ⟨h3', rfl, rfl, rfl⟩
  refine ⟨_, s_at' (k := 4) h (by decide) (by omega), ?_⟩
  rintro v4 I1 L1 A1 ⟨h4, rfl, rfl, rfl⟩
  refine ⟨_, s_at' (k := 2) h (by decide) (by omega), ?_⟩
  rintro v2 I1 L1 A1 ⟨h2, rfl, rfl, rfl⟩ vA eA
  have hA : vA.toInt = rsA (pl L1 u 4) (pl L1 u 3) (pl L1 u 2) ri := by
    have : jc vA (rsA (pl L1 u 4) (pl L1 u 3) (pl L1 u 2) ri) := by
      rw [eA]; exact ((jc_of h3).mul (jc_of h3')).sub ((l4.mul (jc_of h4)).mul ((jc_of h2).sub (jc_of hr)))
    exact this.eq (by omega) (by omega)
  refine ⟨_, s_at' (k := 4) h (by decide) (by omega), ?_⟩
  rintro v4' I1 L1 A1 ⟨h4', rfl, rfl, rfl⟩
  refine ⟨_, s_at' (k := 0) h (by decide) (by omega), ?_⟩
  rintro v0 I1 L1 A1 ⟨h0, rfl, rfl, rfl⟩ vC eC
  have hC : vC.toInt = rsC (pl L1 u 4) (pl L1 u 0) ri := by
    have : jc vC (rsC (pl L1 u 4) (pl L1 u 0) ri) := by
      rw [eC]; exact ((jc_of hr).mul (jc_of hr)).sub ((l4.mul (jc_of h4')).mul (jc_of h0))
    exact this.eq (by omega) (by omega)
  refine ⟨_, s_isSquareProduct (by rw [hA]; exact bA) (by rw [hD]; exact hDb), ?_⟩
  rintro w I2 L2 A2 ⟨hw, rfl, rfl, rfl⟩
  rw [hA, hD] at hw
  refine ⟨fun z => ⟨Or.inr ⟨rfl, fun t => (hw.resolve_left (fun t => by rw [t.1] at z; exact absurd z (by decide))).2 t.1⟩, rfl, rfl, rfl⟩, fun z => ⟨_, s_isSquareProduct (by rw [hC]; exact bC) (by rw [hD]; exact hDb), ?_⟩⟩
  have hw' := (hw.resolve_right (fun t => z t.1)).2
  rintro w2 I3 L3 A3 ⟨hw2, rfl, rfl, rfl⟩
  rw [hC, hD] at hw2
  exact ⟨fun z2 => ⟨Or.inr ⟨rfl, fun t => (hw2.resolve_left (fun t => by rw [t.1] at z2; exact absurd z2 (by decide))).2 t.2⟩, rfl, rfl, rfl⟩, fun z2 => ⟨Or.inl ⟨rfl, hw', (hw2.resolve_right (fun t => z2 t.1)).2⟩, rfl, rfl, rfl⟩⟩
set_option maxHeartbeats 2000000 in
theorem s_ofQuartic {u : Nat} (h : isRow K u) (hb : ∀ k, (pl L u k).natAbs ≤ 300) : ConI K yX1_ofQuartic wsX1_ofQuartic 4 123 I L A [.ref u] (fun v I' L' A' => qcA (pl L u 4) (pl L u 3) (pl L u 2) (pl L u 1) (pl L u 0) v ∧ I' = I ∧ L' = L ∧ A' = A) := by
  have l4 : jc 4 4 := jc_of rfl
  have l1 : jc 1 1 := jc_of rfl
  have bL := rsL_bd (hb 4) (hb 3) (hb 1) (hb 0)
  have bK := rsK_bd (hb 4) (hb 3) (hb 2) (hb 1) (hb 0)
  have bD := rsD_bd (hb 4) (hb 3) (hb 2) (hb 1) (hb 0)
  apply w_X1_ofQuartic
  unfold wp_X1_ofQuartic
  refine ⟨h.1, _, s_at' (k := 4) h (by decide) (by omega), ?_⟩
  rintro v4 I1 L1 A1 ⟨h4, rfl, rfl, rfl⟩
  refine ⟨_, s_at' (k := 2) h (by decide) (by omega), ?_⟩
  rintro v2 I1 L1 A1 ⟨h2, rfl, rfl, rfl⟩ vq eq
  have hq : vq.toInt = -pl L1 u 2 := by rw [eq, jneg (by rw [h2]; have := hb 2; omega), h2]
  refine ⟨_, s_at' (k := 3) h (by decide) (by omega), ?_⟩
  rintro v3 I1 L1 A1 ⟨h3, rfl, rfl, rfl⟩
  refine ⟨_, s_at' (k := 1) h (by decide) (by omega), ?_⟩
  rintro v1 I1 L1 A1 ⟨h1, rfl, rfl, rfl⟩
  refine ⟨_, s_at' (k := 0) h (by decide) (by omega), ?_⟩
  rintro v0 I1 L1 A1 ⟨h0, rfl, rfl, rfl⟩ vl el
  have hl : vl.toInt = rsL (pl L1 u 4) (pl L1 u 3) (pl L1 u 1) (pl L1 u 0) := by
    have : jc vl (rsL (pl L1 u 4) (pl L1 u 3) (pl L1 u 1) (pl L1 u 0)) := by
      rw [el]; exact ((jc_of h3).mul (jc_of h1)).sub ((l4.mul (jc_of h4)).mul (jc_of h0))
    exact this.eq (by omega) (by omega)
  refine ⟨_, s_at' (k := 2) h (by decide) (by omega), ?_⟩
  rintro w2 I1 L1 A1 ⟨g2, rfl, rfl, rfl⟩
  refine ⟨_, s_at' (k := 3) h (by decide) (by omega), ?_⟩
  rintro w3 I1 L1 A1 ⟨g3, rfl, rfl, rfl⟩
  refine ⟨_, s_at' (k := 3) h (by decide) (by omega), ?_⟩
  rintro w3' I1 L1 A1 ⟨g3', rfl, rfl, rfl⟩
  refine ⟨_, s_at' (k := 0) h (by decide) (by omega), ?_⟩
  rintro w0 I1 L1 A1 ⟨g0, rfl, rfl, rfl⟩
  refine ⟨_, s_at' (k := 1) h (by decide) (by omega), ?_⟩
  rintro w1 I1 L1 A1 ⟨g1, rfl, rfl, rfl⟩
  refine ⟨_, s_at' (k := 1) h (by decide) (by omega), ?_⟩
  rintro w1' I1 L1 A1 ⟨g1', rfl, rfl, rfl⟩ vk ek
  have hk : vk.toInt = rsK (pl L1 u 4) (pl L1 u 3) (pl L1 u 2) (pl L1 u 1) (pl L1 u 0) := by
    have : jc vk (rsK (pl L1 u 4) (pl L1 u 3) (pl L1 u 2) (pl L1 u 1) (pl L1 u 0)) := by
      rw [ek]; exact ((((l4.mul (jc_of h4)).mul (jc_of g2)).sub ((jc_of g3).mul (jc_of g3'))).mul (jc_of g0)).sub (((jc_of h4).mul (jc_of g1)).mul (jc_of g1'))
    exact this.eq (by omega) (by omega)
  refine ⟨_, s_disc l1 (jc_of hq) (jc_of hl) (jc_of hk), ?_⟩
  rintro vd I2 L2 A2 ⟨hd, rfl, rfl, rfl⟩
  have hd' : vd.toInt = rsD (pl L2 u 4) (pl L2 u 3) (pl L2 u 2) (pl L2 u 1) (pl L2 u 0) := by
    refine jc.eq hd ?_ ?_ <;> omega
  obtain ⟨R, hR⟩ : ∃ R : Int → Int, R = rsv (pl L2 u 4) (pl L2 u 3) (pl L2 u 2) (pl L2 u 1) (pl L2 u 0) := ⟨_, rfl⟩
  have hin : ∀ y, R y = 0 → -1342 ≤ y ∧ y ≤ 1342 := fun y hy => rsv_in (hb 4) (hb 3) (hb 2) (hb 1) (hb 0) (by rw [← hR]; exact hy)
  unfold wp_X1_ofQuartic_105
  refine ⟨fun μ I' L' A' x3 x5 x7 x9 x11 x12 x14 => ∃ t k : Nat, t + μ = 2685 ∧ k ≤ t ∧ vq = x3 ∧ vl = x5 ∧ vk = x7 ∧ vd = x9 ∧ x11 = nI k ∧ x14.toInt = (t : Int) - 1342 ∧ ((k = 0 ∧ ∀ y, y < (t : Int) - 1342 → R y ≠ 0) ∨ (k = 1 ∧ R x12.toInt = 0 ∧ ∀ y, y < (t : Int) - 1342 → R y = 0 → y = x12.toInt) ∨ (2 ≤ k ∧ ∃ y z, y ≠ z ∧ R y = 0 ∧ R z = 0)) ∧ (k = 1 → x12.toInt < (t : Int) - 1342) ∧ I' = I2 ∧ L' = L2 ∧ A' = A2, 2685, ⟨0, 0, rfl, Nat.le_refl _, rfl, rfl, rfl, rfl, rfl, by decide, Or.inl ⟨rfl, fun y hy hz => by have := hin y hz; omega⟩, fun q => by omega, rfl, rfl, rfl⟩, ?_⟩
  rintro μ C hC I3 L3 A3 _ _ _ _ _ x12 x14 ⟨t, k, ht, hkt, rfl, rfl, rfl, rfl, rfl, h14, hcase, hk12, rfl, rfl, rfl⟩
  have l1342 : (1342 : Int64).toInt = 1342 := rfl
  refine ⟨fun z => ?_, fun z => ?_⟩
  · -- the end
    rw [jlt, l1342, h14] at z
    have htt : t = 2685 := by omega
    subst htt
    refine ⟨fun w => ?_, fun w => ⟨fun w2 => ?_, fun w2 => ?_⟩⟩
    · have hk0 : k = 0 := by rw [← Int32.toInt_inj, tI (by omega), li0] at w; omega
      have hno : ∀ y, R y ≠ 0 := fun y hy => by
        rcases hcase with ⟨-, q⟩ | ⟨q, -⟩ | ⟨q, -⟩
        · exact q y (by have := hin y hy; omega) hy
        · omega
        · omega
      refine ⟨_, s_isSquare (by rw [hd']; omega), ?_⟩
      rintro v I4 L4 A4 ⟨hv, rfl, rfl, rfl⟩
      rw [hd'] at hv
      rw [hR] at hno
      exact ⟨fun z2 => ⟨Or.inl ⟨hno, Or.inr ⟨rfl, (hv.resolve_left (fun t => by rw [t.1] at z2; exact absurd z2 (by decide))).2⟩⟩, rfl, rfl, rfl⟩, fun z2 => ⟨Or.inl ⟨hno, Or.inl ⟨rfl, (hv.resolve_right (fun t => z2 t.1)).2⟩⟩, rfl, rfl, rfl⟩⟩
    · have hk1 : k = 1 := by
        rw [← Int32.toInt_inj, tI (by omega), li0] at w
        rw [ile, tI (by omega), li1] at w2
        omega
      obtain ⟨hr0, hru⟩ : R x12.toInt = 0 ∧ ∀ y, R y = 0 → y = x12.toInt := by
        rcases hcase with ⟨q, -⟩ | ⟨-, q1, q2⟩ | ⟨q, -⟩
        · omega
        · exact ⟨q1, fun y hy => q2 y (by have := hin y hy; omega) hy⟩
        · omega
      refine ⟨_, s_isCycle h hb rfl (hin _ hr0) hd' bD, ?_⟩
      rintro v I4 L4 A4 ⟨hv, rfl, rfl, rfl⟩
      rw [hR] at hr0 hru
      exact ⟨fun z2 => ⟨Or.inr (Or.inr ⟨_, hr0, hru, Or.inr ⟨rfl, (hv.resolve_left (fun t => by rw [t.1] at z2; exact absurd z2 (by decide))).2⟩⟩), rfl, rfl, rfl⟩, fun z2 => ⟨Or.inr (Or.inr ⟨_, hr0, hru, Or.inl ⟨rfl, (hv.resolve_right (fun t => z2 t.1)).2⟩⟩), rfl, rfl, rfl⟩⟩
    · rw [ile, tI (by omega), li1] at w2
      refine ⟨Or.inr (Or.inl ⟨?_, rfl⟩), rfl, rfl, rfl⟩
      rw [hR] at hcase
      rcases hcase with ⟨q, -⟩ | ⟨q, -⟩ | ⟨-, q⟩
      · omega
      · omega
      · exact q
  · rw [jlt, l1342, h14] at z
    have hv : ((((((x14 + vq) * x14) + vl) * x14) + vk)).toInt = R ((t : Int) - 1342) := by
      have : jc ((((((x14 + vq) * x14) + vl) * x14) + vk)) (R ((t : Int) - 1342)) := by
        rw [hR, rsv_def]
        exact (((((((jc_of h14).add (jc_of hq)).mul (jc_of h14)).add (jc_of hl))).mul (jc_of h14)).add (jc_of hk))
      have b1 : ((t : Int) - 1342 + -pl L3 u 2).natAbs ≤ 1642 := by have := hb 2; omega
      have b2 := mul_ab b1 (show ((t : Int) - 1342).natAbs ≤ 1342 by omega)
      have b3 : (((t : Int) - 1342 + -pl L3 u 2) * ((t : Int) - 1342) + rsL (pl L3 u 4) (pl L3 u 3) (pl L3 u 1) (pl L3 u 0)).natAbs ≤ 3000000 := by omega
      have b4 := mul_ab b3 (show ((t : Int) - 1342).natAbs ≤ 1342 by omega)
      have b5 : (R ((t : Int) - 1342)).natAbs ≤ 5000000000 := by rw [hR, rsv_def]; omega
      exact this.eq (by omega) (by omega)
    have h15 : ∀ v15 : Int64, v15 = x14 + 1 → v15.toInt = ((t + 1 : Nat) : Int) - 1342 := fun v15 e15 => by
      have l1' : (1 : Int64).toInt = 1 := rfl
      rw [e15, jadd (by rw [h14, l1']; omega) (by rw [h14, l1']; omega), h14, l1']; omega
    refine ⟨fun w v14 e14 v15 e15 => ?_, fun w v13 e13 => ?_⟩
    · rw [j0, hv] at w
      refine hC (μ - 1) _ _ _ _ _ _ _ _ _ _ (by omega) ⟨t + 1, k + 1, by omega, by omega, rfl, rfl, rfl, rfl, by rw [e14, sI], h15 v15 e15, ?_, fun _ => by rw [h14]; omega, rfl, rfl, rfl⟩
      rcases hcase with ⟨q, q2⟩ | ⟨q, q1, q2⟩ | ⟨q, q2⟩
      · refine Or.inr (Or.inl ⟨by omega, by rw [h14]; exact w, fun y hy hz => ?_⟩)
        rw [h14]
        by_cases e : y = (t : Int) - 1342
        · exact e
        · exact absurd hz (q2 y (by omega))
      · exact Or.inr (Or.inr ⟨by omega, x12.toInt, (t : Int) - 1342, by have := hk12 q; omega, q1, w⟩)
      · exact Or.inr (Or.inr ⟨by omega, q2⟩)
    · rw [j0, hv] at w
      refine hC (μ - 1) _ _ _ _ _ _ _ _ _ _ (by omega) ⟨t + 1, k, by omega, by omega, rfl, rfl, rfl, rfl, rfl, h15 v13 e13, ?_, fun q => by have := hk12 q; omega, rfl, rfl, rfl⟩
      rcases hcase with ⟨q, q2⟩ | ⟨q, q1, q2⟩ | ⟨q, q2⟩
      · refine Or.inl ⟨q, fun y hy hz => ?_⟩
        by_cases e : y = (t : Int) - 1342
        · rw [e] at hz; exact w hz
        · exact q2 y (by omega) hz
      · refine Or.inr (Or.inl ⟨q, q1, fun y hy hz => ?_⟩)
        by_cases e : y = (t : Int) - 1342
        · rw [e] at hz; exact absurd hz w
        · exact q2 y (by omega) hz
      · exact Or.inr (Or.inr ⟨q, q2⟩)
end
