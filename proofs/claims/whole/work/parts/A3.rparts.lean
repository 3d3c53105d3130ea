/-! THE REFERENCE: parts, part, times, content, degree -/
section
variable {K : Cx} {I : TI} {L : TL} {A : TA}
/-- the parts told -/
def RTd (m : Nat) (I : TI) (L : TL) (c : Nat) (q : Nat → PP) (n : Nat → Nat) (ct : Int) : Prop := I m 7 = nI c ∧ c ≤ 6 ∧ (I m 8).toInt = ct ∧ ∀ i, i < c → (∀ k, k < 8 → (L (m + 4) (8 * i + k)).toInt = q i k) ∧ I (m + 5) i = nI (n i) ∧ n i ≤ 8
/-- the pattern told -/
def RPd (m : Nat) (I : TI) (c : Nat) (w : Nat → Nat) : Prop := I m 11 = nI c ∧ c ≤ 6 ∧ ∀ i, i < c → I (m + 6) i = nI (w i) ∧ w i ≤ 6
theorem RTd.tf {m c : Nat} {q : Nat → PP} {n : Nat → Nat} {ct : Int} {I' : TI} {L' : TL} (h : RTd m I L c q n ct) (t : TF m I I' L L') : RTd m I' L' c q n ct := by
  obtain ⟨h1, h2, h3, h4⟩ := h
  refine ⟨by rw [t.1]; exact h1, h2, by rw [t.2.1]; exact h3, fun i hi => ?_⟩
  rw [t.2.2.2.1, t.2.2.2.2.2]; exact h4 i hi
theorem RPd.tf {m c : Nat} {w : Nat → Nat} {I' : TI} {L' : TL} (h : RPd m I c w) (t : TF m I I' L L') : RPd m I' c w := by
  obtain ⟨h1, h2, h3⟩ := h
  exact ⟨by rw [t.2.2.1]; exact h1, h2, fun i hi => by rw [t.2.2.2.2.1]; exact h3 i hi⟩
/-- the parts of f -/
def isPts (f : PP) (c : Nat) (q : Nat → PP) (n : Nat → Nat) (ct : Int) : Prop := ∃ f0, ppA f f0 ∧ Fac f0 c q n ∧ srt c q ∧ ct = cnt f
theorem m_parts {m : Nat} {s : Int32} {P : Nat → PP} (hm : isX7 K m) (hs : RSlots m L P) : ConI K yX7_parts wsX7_parts 7 170 I L A [.ref m, .int s] (fun v I' L' A' => (okS s ∧ I' m 0 = 0 ∧ RSlots m L' P ∧ (∀ y, ¬ (m ≤ y ∧ y < m + 9) → I' y = I y ∧ L' y = L y) ∧ I' m 11 = I m 11 ∧ I' (m + 6) = I (m + 6) ∧ A' = A ∧ ((P (ix s) = p0 ∧ v = -3 ∧ TF m I I' L L') ∨ (P (ix s) ≠ p0 ∧ ∃ c q n, v = nI c ∧ isPts (P (ix s)) c q n (cnt (P (ix s))) ∧ RTd m I' L' c q n (cnt (P (ix s)))))) ∨ (¬ okS s ∧ I' = u2 I m 0 1 ∧ L' = L ∧ A' = A)) := by
  have noT : ∀ j, j < 8 → ¬ rT j := fun j hj h => by have : 8 ≤ j ∧ j < 20 := h; omega
  apply w_X7_parts
  unfold wp_X7_parts
  refine ⟨_, m_isSlot, ?_⟩
  rintro v I1 L1 A1 ⟨h1, rfl, rfl, rfl⟩
  unfold wp_X7_parts_13
  refine ⟨fun z => ⟨hm.1, _, m_refused hm (Or.inr rfl), ?_⟩, fun z => ⟨hm.1, _, m_refused hm (Or.inl rfl), ?_⟩⟩
  · rintro v I2 L2 A2 ⟨rfl, rfl, rfl, rfl⟩
    exact ⟨fun z => absurd z (by decide), fun _ => Or.inr ⟨way0 h1 z, rfl, rfl, rfl⟩⟩
  have hok := way1 h1 z
  obtain ⟨s, hs8, rfl⟩ := okS_n hok
  rw [ixn (by omega)]
  rintro v I2 L2 A2 ⟨rfl, rfl, rfl, rfl⟩
  refine ⟨fun _ => ⟨hm.1, _, m_isZero hm (show s < 30 by omega), ?_⟩, fun z => absurd rfl z⟩
  rintro v I3 L3 A3 ⟨h3, rfl, rfl, rfl⟩
  rw [(hs s hs8).1] at h3
  refine ⟨fun z => ?_, fun z => Or.inl ⟨hok, u2_self _ _ _ _, hs, fun y hy => ⟨u2_off _ _ (by omega), rfl⟩, u2_ne _ _ (by omega), u2_off _ _ (by omega), rfl, Or.inl ⟨way1 h3 z, rfl, tf_0 (RU.refl m (fun _ => True) L3)⟩⟩⟩
  have hne := way0 h3 z
  refine ⟨_, m_takeApart hm hs8 (hs s hs8).1 (hs s hs8).2 hne, ?_⟩
  rintro I4 L4 A4 ⟨⟨c, q, n, f0, hpp, hfac, hsrt, hpt, hcn⟩, ru4, fr4, rfl⟩ I5 e5 I6 e6
  have hc6 := hpt.2.1
  have hs4 := hs.ru ru4 noT
  have k2 : I6 m 2 = nI c := by rw [e6, u2_ne _ _ (by omega), e5, u2_ne _ _ (by omega)]; exact hpt.1
  have k7 : I6 m 7 = nI c := by rw [e6, u2_ne _ _ (by omega), e5, u2_self]; exact hpt.1
  have k8 : (I6 m 8).toInt = cnt (P s) := by rw [e6, u2_self, e5, u2_ne _ _ (by omega)]; exact hcn
  have k0 : I6 m 0 = 0 := by rw [e6, u2_ne _ _ (by omega), e5, u2_ne _ _ (by omega), fr4.2 0 (by omega) (by omega) (by omega) (by omega) (by omega) (by omega), u2_self]
  have k11 : I6 m 11 = I1 m 11 := by rw [e6, u2_ne _ _ (by omega), e5, u2_ne _ _ (by omega), fr4.2 11 (by omega) (by omega) (by omega) (by omega) (by omega) (by omega), u2_ne _ _ (by omega)]
  have kout : ∀ y, y ≠ m → y ≠ m + 2 → y ≠ m + 7 → I6 y = I1 y := fun y h1 h2 h3 => by rw [e6, u2_off _ _ h1, e5, u2_off _ _ h1, fr4.1 y h1 h2 h3, u2_off _ _ h1]
  have hpt6 : PtS m I6 L4 c q n := ⟨k2, hc6, fun i hi => by rw [e6, u2_off _ _ (by omega), e5, u2_off _ _ (by omega)]; exact hpt.2.2 i hi⟩
  unfold wp_X7_parts_55
  refine ⟨fun μ I' L' A' x => ∃ i, i + μ = c ∧ x = nI i ∧ (∀ y, y ≠ m + 5 → I' y = I6 y) ∧ (∀ y, y ≠ m + 4 → L' y = L4 y) ∧ (∀ j, j < i → (∀ k, k < 8 → (L' (m + 4) (8 * j + k)).toInt = q j k) ∧ I' (m + 5) j = nI (n j)) ∧ A' = A4, c, ⟨0, by omega, rfl, fun _ _ => rfl, fun _ _ => rfl, fun j hj => absurd hj (Nat.not_lt_zero _), rfl⟩, ?_⟩
  rintro μ C hC I' L' A' _ ⟨i, hi, rfl, g1, g2, g3, rfl⟩
  have g1m : I' m = I6 m := g1 m (by omega)
  refine ⟨hm.1, fun w => ?_, fun w => ?_⟩
  · rw [g1m, k2, ile, tI (by omega), tI (by omega)] at w
    have hic : i = c := by omega
    subst hic
    refine Or.inl ⟨hok, by rw [g1m]; exact k0, fun j hj => ?_, fun y hy => ?_, by rw [g1m]; exact k11, ?_, rfl, Or.inr ⟨hne, i, q, n, by rw [g1m]; exact k2, ⟨f0, hpp, hfac, hsrt, rfl⟩, ?_⟩⟩
    · have e1 : rp L' m j = rp L4 m j := funext fun k => by
        by_cases y : k < 8
        · rw [rp_lt y, rp_lt y, g2 (m + 1) (by omega)]
        · rw [rp, rp, if_neg y, if_neg y]
      rw [e1]; exact hs4 j hj
    · exact ⟨(g1 y (by omega)).trans (kout y (by omega) (by omega) (by omega)), (g2 y (by omega)).trans (ru4.1 y (by omega))⟩
    · rw [g1 (m + 6) (by omega), kout (m + 6) (by omega) (by omega) (by omega)]
    · exact ⟨by rw [g1m]; exact k7, hc6, by rw [g1m]; exact k8, fun j hj => ⟨(g3 j hj).1, (g3 j hj).2, (hpt.2.2 j hj).2.2.2⟩⟩
  · rw [g1m, k2, ile, tI (by omega), tI (by omega)] at w
    have hic : i < c := by omega
    refine ⟨⟨8, hm.2.2.1, inOf (tI (by omega)) (by omega)⟩, ⟨7, hm.2.2.2.2.2.1, inOf (tI (by omega)) (by omega)⟩, fun I7 e7 => ?_⟩
    rw [ixn (by omega), g1 (m + 2) (by omega), (hpt6.2.2 i hic).2.1] at e7
    unfold wp_X7_parts_77
    refine ⟨fun ν I'' L'' A'' x2 x3 => ∃ k, k + ν = 8 ∧ x2 = nI i ∧ x3 = nI k ∧ I'' = I7 ∧ (∀ y, y ≠ m + 4 → L'' y = L4 y) ∧ (∀ y, ¬ (8 * i ≤ y ∧ y < 8 * i + k) → L'' (m + 4) y = L' (m + 4) y) ∧ (∀ k', k' < k → (L'' (m + 4) (8 * i + k')).toInt = q i k') ∧ A'' = A', 8, ⟨0, by omega, rfl, rfl, rfl, g2, fun _ _ => rfl, fun k' h => absurd h (Nat.not_lt_zero _), rfl⟩, ?_⟩
    rintro ν C' hC' I'' L'' A'' _ _ ⟨k, hk, rfl, rfl, rfl, j1, j2, j3, rfl⟩
    have l8 : (8 : Int32).toInt = 8 := by decide
    refine ⟨fun u v1 e1 => ?_, fun u => ?_⟩
    · rw [ile, l8, tI (by omega)] at u
      have hk8 : k = 8 := by omega
      subst hk8
      refine hC (μ - 1) _ _ _ _ (by omega) ⟨i + 1, by omega, by rw [e1, sI], fun y hy => by rw [e7, u2_off _ _ hy]; exact g1 y hy, j1, fun j hj => ?_, rfl⟩
      by_cases y : j = i
      · subst y
        exact ⟨j3, by rw [e7, u2_self]⟩
      · refine ⟨fun k' hk' => ?_, by rw [e7, u2_ne _ _ (by omega)]; exact (g3 j (by omega)).2⟩
        rw [j2 _ (by omega)]; exact (g3 j (by omega)).1 k' hk'
    · rw [ile, l8, tI (by omega)] at u
      have h1' := rix (show 12 + i < 30 by omega) (show k < 8 by omega) (t12 (k := i) (by omega)) (tI (k := k) (by omega))
      have h2' := rix (show i < 30 by omega) (show k < 8 by omega) (x := nI i) rfl (tI (k := k) (by omega))
      rw [ix_of h1', ix_of h2']
      refine ⟨hm.1, rok hm (by omega) (by omega) h1', ⟨56, hm.2.2.2.2.1, inOf h2' (by omega)⟩, fun L5 e5' v6 e6' => ?_⟩
      refine hC' (ν - 1) _ _ _ _ _ (by omega) ⟨k + 1, by omega, rfl, by rw [e6', sI], rfl, fun y hy => by rw [e5', u2_off _ _ hy]; exact j1 y hy, fun y hy => by rw [e5', u2_ne _ _ (by omega)]; exact j2 y (by omega), fun k' hk' => ?_, rfl⟩
      rw [e5']
      by_cases y : k' = k
      · subst y
        rw [u2_self, j1 (m + 1) (by omega), ← rp_lt (by omega), (hpt6.2.2 i hic).1]
      · rw [u2_ne _ _ (by omega)]; exact j3 k' (by omega)
/-- an index among c -/
theorem isIn_c {i : Int32} {c : Nat} (hc : c ≤ 8) : okI i 0 (nI c - 1) ↔ ∃ j : Nat, j < c ∧ i = nI j := by
  unfold okI
  rw [tm1 (by omega), li0]
  constructor
  · intro h; exact ⟨i.toInt.toNat, by omega, eqn (by omega)⟩
  · rintro ⟨j, h1, rfl⟩; rw [tI (by omega)]; omega
theorem m_part {m c : Nat} {i k : Int32} {q : Nat → PP} {n : Nat → Nat} {ct : Int} (hm : isX7 K m) (ht : RTd m I L c q n ct) : ConL K yX7_part wsX7_part 1 22 I L A [.ref m, .int i, .int k] (fun v I' L' A' => ((∃ j l : Nat, j < c ∧ l < 7 ∧ i = nI j ∧ k = nI l ∧ v.toInt = q j l) ∨ ((¬ ∃ j l : Nat, j < c ∧ l < 7 ∧ i = nI j ∧ k = nI l) ∧ v = 0)) ∧ I' = u2 I m 0 0 ∧ L' = L ∧ A' = A) := by
  obtain ⟨h1, h2, h3, h4⟩ := ht
  apply w_X7_part
  unfold wp_X7_part
  refine ⟨hm.1, fun I2 e2 => ?_⟩
  subst e2
  rw [u2_ne _ _ (show ¬ (m = m ∧ 7 = 0) by omega), h1]
  refine ⟨_, m_isIn, ?_⟩
  rintro v I3 L3 A3 ⟨hv, rfl, rfl, rfl⟩
  rw [isIn_c (by omega)] at hv
  refine ⟨fun z => ⟨Or.inr ⟨fun ⟨j, l, a1, a2, a3, a4⟩ => way0 hv z ⟨j, a1, a3⟩, rfl⟩, rfl, rfl, rfl⟩, fun z => ⟨_, m_isIn, ?_⟩⟩
  obtain ⟨j, hj, rfl⟩ := way1 hv z
  rintro v I4 L4 A4 ⟨hv2, rfl, rfl, rfl⟩
  have l6 : okI k 0 6 ↔ ∃ l : Nat, l < 7 ∧ k = nI l := by
    unfold okI
    rw [li0, show (6 : Int32).toInt = 6 from by decide]
    constructor
    · intro h; exact ⟨k.toInt.toNat, by omega, eqn (by omega)⟩
    · rintro ⟨l, h1, rfl⟩; rw [tI (by omega)]; omega
  rw [l6] at hv2
  refine ⟨fun z2 => ⟨Or.inr ⟨fun ⟨j', l, a1, a2, a3, a4⟩ => way0 hv2 z2 ⟨l, a2, a4⟩, rfl⟩, rfl, rfl, rfl⟩, fun z2 => ?_⟩
  obtain ⟨l, hl, rfl⟩ := way1 hv2 z2
  have hix := rix (show j < 30 by omega) (show l < 8 by omega) (x := nI j) rfl (tI (k := l) (by omega))
  refine ⟨⟨56, hm.2.2.2.2.1, inOf hix (by omega)⟩, Or.inl ⟨j, l, hj, hl, rfl, rfl, ?_⟩, rfl, rfl, rfl⟩
  rw [ix_of hix]; exact (h4 j hj).1 l (by omega)
theorem m_times {m c : Nat} {i : Int32} {q : Nat → PP} {n : Nat → Nat} {ct : Int} (hm : isX7 K m) (ht : RTd m I L c q n ct) : ConI K yX7_times wsX7_times 1 22 I L A [.ref m, .int i] (fun v I' L' A' => ((∃ j : Nat, j < c ∧ i = nI j ∧ v = nI (n j)) ∨ ((¬ ∃ j : Nat, j < c ∧ i = nI j) ∧ v = 0)) ∧ I' = u2 I m 0 0 ∧ L' = L ∧ A' = A) := by
  obtain ⟨h1, h2, h3, h4⟩ := ht
  apply w_X7_times
  unfold wp_X7_times
  refine ⟨hm.1, fun I2 e2 => ?_⟩
  subst e2
  rw [u2_ne _ _ (show ¬ (m = m ∧ 7 = 0) by omega), h1]
  refine ⟨_, m_isIn, ?_⟩
  rintro v I3 L3 A3 ⟨hv, rfl, rfl, rfl⟩
  rw [isIn_c (by omega)] at hv
  refine ⟨fun z => ⟨Or.inr ⟨way0 hv z, rfl⟩, rfl, rfl, rfl⟩, fun z => ?_⟩
  obtain ⟨j, hj, rfl⟩ := way1 hv z
  refine ⟨⟨7, hm.2.2.2.2.2.1, inOf (tI (by omega)) (by omega)⟩, Or.inl ⟨j, hj, rfl, ?_⟩, rfl, rfl, rfl⟩
  rw [ixn (by omega), u2_off _ _ (by omega)]; exact (h4 j hj).2.1
theorem m_content {m c : Nat} {q : Nat → PP} {n : Nat → Nat} {ct : Int} (hm : isX7 K m) (ht : RTd m I L c q n ct) : ConI K yX7_content wsX7_content 0 0 I L A [.ref m] (fun v I' L' A' => v.toInt = ct ∧ I' = u2 I m 0 0 ∧ L' = L ∧ A' = A) := by
  apply w_X7_content
  unfold wp_X7_content
  refine ⟨hm.1, fun I2 e2 => ⟨?_, e2, rfl, rfl⟩⟩
  rw [e2, u2_ne _ _ (by omega)]; exact ht.2.2.1
theorem m_degree {m c : Nat} {i : Int32} {w : Nat → Nat} (hm : isX7 K m) (ht : RPd m I c w) : ConI K yX7_degree wsX7_degree 1 22 I L A [.ref m, .int i] (fun v I' L' A' => ((∃ j : Nat, j < c ∧ i = nI j ∧ v = nI (w j)) ∨ ((¬ ∃ j : Nat, j < c ∧ i = nI j) ∧ v = 0)) ∧ I' = u2 I m 0 0 ∧ L' = L ∧ A' = A) := by
  obtain ⟨h1, h2, h4⟩ := ht
  apply w_X7_degree
  unfold wp_X7_degree
  refine ⟨hm.1, fun I2 e2 => ?_⟩
  subst e2
  rw [u2_ne _ _ (show ¬ (m = m ∧ 11 = 0) by omega), h1]
  refine ⟨_, m_isIn, ?_⟩
  rintro v I3 L3 A3 ⟨hv, rfl, rfl, rfl⟩
  rw [isIn_c (by omega)] at hv
  refine ⟨fun z => ⟨Or.inr ⟨way0 hv z, rfl⟩, rfl, rfl, rfl⟩, fun z => ?_⟩
  obtain ⟨j, hj, rfl⟩ := way1 hv z
  refine ⟨⟨7, hm.2.2.2.2.2.2.1, inOf (tI (by omega)) (by omega)⟩, Or.inl ⟨j, hj, rfl, ?_⟩, rfl, rfl, rfl⟩
  rw [ixn (by omega), u2_off _ _ (by omega)]; exact (h4 j hj).1
end
