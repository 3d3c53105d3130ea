/-! THE REFERENCE: multiply, derive -/
section
variable {K : Cx} {I : TI} {L : TL} {A : TA}
theorem not_sm7_mul {f g : PP} {d e : Nat} (hf : dgI f d) (hg : dgI g e) (h : 6 < d + e) : ¬ sm7 (pm f g) := fun z => by
  have := (hf.mul hg).lt z.1
  omega
theorem six4b {i j : Nat} (h : i + j < 8) {x y : Int32} (hx : x = nI i) (hy : y = nI j) : ((64 : Int32) + x + y).toInt = ((8 * 8 + (i + j) : Nat) : Int) := by
  have h1 := six4 (show i < 8 by omega) hx
  rw [iadd (by rw [h1, hy, tI (by omega)]; omega) (by rw [h1, hy, tI (by omega)]; omega), h1, hy, tI (by omega)]; omega
set_option maxHeartbeats 2000000 in
theorem m_multiply {m : Nat} {t a b : Int32} {P : Nat → PP} (hm : isX7 K m) (hs : RSlots m L P) : ConI K yX7_multiply wsX7_multiply 2 46 I L A [.ref m, .int t, .int a, .int b] (refP m (okS t ∧ okS a ∧ okS b) (fun v P' => keepA P (ix t) (pm (P (ix a)) (P (ix b))) v P') I L A) := by
  have no : ¬ (okS t ∧ okS a ∧ okS b) → wp_X7_multiply_26 K m t a b I L A m (refP m (okS t ∧ okS a ∧ okS b) (fun v P' => keepA P (ix t) (pm (P (ix a)) (P (ix b))) v P') I L A) := by
    intro hn
    unfold wp_X7_multiply_26 wp_X7_multiply_27
    refine ⟨hm.1, _, m_refused hm (Or.inr rfl), ?_⟩
    rintro v I1 L1 A1 ⟨rfl, rfl, rfl, rfl⟩
    exact ⟨fun z => absurd z (by decide), fun _ => Or.inr ⟨hn, rfl, rfl, rfl⟩⟩
  apply w_X7_multiply
  unfold wp_X7_multiply
  refine ⟨_, m_isSlot, ?_⟩
  rintro v I1 L1 A1 ⟨h1, rfl, rfl, rfl⟩
  refine ⟨fun z => no (fun w => way0 h1 z w.1), fun z => ⟨_, m_isSlot, ?_⟩⟩
  have ht := way1 h1 z
  rintro v I1 L1 A1 ⟨h1, rfl, rfl, rfl⟩
  refine ⟨fun z => no (fun w => way0 h1 z w.2.1), fun z => ⟨_, m_isSlot, ?_⟩⟩
  have ha := way1 h1 z
  rintro v I1 L1 A1 ⟨h1, rfl, rfl, rfl⟩
  refine ⟨fun z => no (fun w => way0 h1 z w.2.2), fun z => ?_⟩
  have hb := way1 h1 z
  have hok : okS t ∧ okS a ∧ okS b := ⟨ht, ha, hb⟩
  clear no h1 z
  obtain ⟨t, ht8, rfl⟩ := okS_n ht
  obtain ⟨a, ha8, rfl⟩ := okS_n ha
  obtain ⟨b, hb8, rfl⟩ := okS_n hb
  rw [ixn (by omega), ixn (by omega), ixn (by omega)]
  unfold wp_X7_multiply_27
  refine ⟨hm.1, _, m_refused hm (Or.inl rfl), ?_⟩
  rintro v I2 L2 A2 ⟨rfl, rfl, rfl, rfl⟩
  refine ⟨fun _ => ⟨hm.1, _, m_clear hm (show 8 < 30 by omega), ?_⟩, fun z => absurd rfl z⟩
  rintro I3 L3 A3 ⟨hz8, hru3, rfl, rfl⟩
  have hs3 := hs.ru hru3 no8
  have da := (hs a ha8).2.1
  have db := (hs b hb8).2.1
  have ba : ∀ k, (P a k).natAbs ≤ 300 := fun k => by have := (hs a ha8).2.2 k; omega
  have bb : ∀ k, (P b k).natAbs ≤ 300 := fun k => by have := (hs b hb8).2.2 k; omega
  -- the double loop: places below 7 of the product
  have main : dl (pm (P a) (P b)) 7 → wp_X7_multiply_79 K m (nI t) (nI a) (nI b) (u2 I1 m 0 0) L3 A3 0 (refP m (okS (nI t) ∧ okS (nI a) ∧ okS (nI b)) (fun v P' => keepA P t (pm (P a) (P b)) v P') I1 L2 A3) := by
    intro hdl
    unfold wp_X7_multiply_79
    refine ⟨fun μ I' L' A' x => ∃ i, i + μ = 7 ∧ x = nI i ∧ I' = u2 I1 m 0 0 ∧ (∀ k, k < 8 → rp L' m 8 k = if k < 7 then pm (ct (P a) i) (P b) k else 0) ∧ RU m (· = 8) L2 L' ∧ A' = A3, 7, ⟨0, rfl, rfl, rfl, fun k hk => ?_, hru3, rfl⟩, ?_⟩
    · rw [hz8, show ct (P a) 0 = p0 from funext fun k => if_neg (Nat.not_lt_zero k), pm_0l]
      simp [p0]
    rintro μ C hC I' L' A' _ ⟨i, hi, rfl, rfl, h1, h2, rfl⟩
    have hs' := hs.ru h2 no8
    refine ⟨fun z => ⟨hm.1, _, m_finish hm hs' ht8, ?_⟩, fun z => ?_⟩
    · rw [ile, li7, tI (by omega)] at z
      have hi7 : i = 7 := by omega
      subst hi7
      rintro v I4 L4 A4 ⟨⟨P', hk, hS⟩, hru, rfl, rfl⟩
      have hR : rp L' m 8 = pm (P a) (P b) := funext fun k => by
        by_cases y : k < 8
        · rw [h1 k y, ct_all da]
          by_cases y2 : k < 7
          · rw [if_pos y2]
          · rw [if_neg y2, hdl k (by omega)]
        · rw [rp, if_neg y, hdl k (by omega)]
      rw [hR] at hk
      exact Or.inl ⟨hok, ⟨P', hk, hS⟩, u2_self _ _ _ _, fr_0 ((h2.mono (fun r hr => (show r < 9 by omega))).trans (hru.mono (fun r hr => (show r < 9 by omega)))), rfl⟩
    · rw [ile, li7, tI (by omega)] at z
      unfold wp_X7_multiply_89
      refine ⟨fun ν I'' L'' A'' x4 x5 => ∃ j, i + j + ν = 7 ∧ x4 = nI i ∧ x5 = nI j ∧ I'' = u2 I1 m 0 0 ∧ (∀ k, k < 8 → rp L'' m 8 k = if k < 7 then pm (ct (P a) i) (P b) k + (if i ≤ k ∧ k < i + j then P a i * P b (k - i) else 0) else 0) ∧ RU m (· = 8) L2 L'' ∧ A'' = A', 7 - i, ⟨0, by omega, rfl, rfl, rfl, fun k hk => ?_, h2, rfl⟩, ?_⟩
      · rw [h1 k hk]
        by_cases y : k < 7
        · rw [if_pos y, if_pos y, if_neg (by omega)]; omega
        · rw [if_neg y, if_neg y]
      rintro ν C' hC' I'' L'' A'' _ _ ⟨j, hj, rfl, rfl, rfl, h3, h4, rfl⟩
      have hs'' := hs.ru h4 no8
      have hsum : (nI i + nI j).toInt = ((i + j : Nat) : Int) := by rw [iadd (by rw [tI (by omega), tI (by omega)]; omega) (by rw [tI (by omega), tI (by omega)]; omega), tI (by omega), tI (by omega)]; omega
      refine ⟨fun q v1 e1 => ?_, fun q => ?_⟩
      · rw [ile, li7, hsum] at q
        refine hC (μ - 1) _ _ _ _ (by omega) ⟨i + 1, by omega, by rw [e1, sI], rfl, fun k hk => ?_, h4, rfl⟩
        rw [h3 k hk]
        by_cases y : k < 7
        · rw [if_pos y, if_pos y, pm_ct]
          congr 1
          by_cases y2 : i ≤ k
          · rw [if_pos y2, if_pos ⟨y2, by omega⟩]
          · rw [if_neg y2, if_neg (fun w => y2 w.1)]
        · rw [if_neg y, if_neg y]
      · rw [ile, li7, hsum] at q
        have hix := six4b (show i + j < 8 by omega) (x := nI i) (y := nI j) rfl rfl
        have hixa := rix (show a < 30 by omega) (show i < 8 by omega) (x := nI a) rfl (tI (k := i) (by omega))
        have hixb := rix (show b < 30 by omega) (show j < 8 by omega) (x := nI b) rfl (tI (k := j) (by omega))
        have hok8 : aok (cxS K) (m + 1) 1 (64 + nI i + nI j) := rok hm (show 8 < 30 by omega) (show i + j < 8 by omega) hix
        refine ⟨hm.1, hok8, rok hm (show a < 30 by omega) (show i < 8 by omega) hixa, rok hm (show b < 30 by omega) (show j < 8 by omega) hixb, hok8, fun L5 e5 v hv => ?_⟩
        rw [ix_of hix, ix_of hixa, ix_of hixb] at e5
        have ea : (L'' (m + 1) (8 * a + i)).toInt = P a i := by rw [← rp_lt (by omega), (hs'' a ha8).1]
        have eb : (L'' (m + 1) (8 * b + j)).toInt = P b j := by rw [← rp_lt (by omega), (hs'' b hb8).1]
        refine hC' (ν - 1) _ _ _ _ _ (by omega) ⟨j + 1, by omega, rfl, by rw [hv, sI], rfl, fun k hk => ?_, h4.trans (by rw [e5]; exact u2_ru (by omega)), rfl⟩
        rw [rp_lt hk, e5]
        by_cases y : k = i + j
        · subst y
          have e8 := h3 (i + j) hk
          rw [if_pos (by omega), if_neg (by omega), Int.add_zero, rp_lt hk] at e8
          have b1 := pm_part (n := 7) (k := i + j) ba bb (show i ≤ 7 by omega)
          have b2 := mul_ab (ba i) (bb j)
          have e2 : (L'' (m + 1) (8 * a + i) * L'' (m + 1) (8 * b + j)).toInt = P a i * P b j := by rw [jmulB (m := 300) (n := 300) (by rw [ea]; exact ba i) (by rw [eb]; exact bb j) (by decide), ea, eb]
          rw [u2_self, jadd (by rw [e8, e2]; omega) (by rw [e8, e2]; omega), e8, e2, if_pos (by omega), if_pos ⟨by omega, by omega⟩, show i + j - i = j by omega]
        · rw [u2_ne _ _ (fun w => y (by omega)), ← rp_lt hk, h3 k hk]
          by_cases y2 : k < 7
          · rw [if_pos y2, if_pos y2]
            congr 1
            by_cases y3 : i ≤ k ∧ k < i + j
            · rw [if_pos y3, if_pos ⟨y3.1, by omega⟩]
            · rw [if_neg y3, if_neg (fun w => y3 ⟨w.1, by omega⟩)]
          · rw [if_neg y2, if_neg y2]
  have hz0 : ∀ f : PP, pm p0 f = p0 := pm_0l
  refine ⟨_, m_isZero hm (show a < 30 by omega), ?_⟩
  rintro v I4 L4 A4 ⟨h4, rfl, rfl, rfl⟩
  rw [(hs3 a ha8).1] at h4
  refine ⟨fun z => ⟨_, m_isZero hm (show b < 30 by omega), ?_⟩, fun z => main ?_⟩
  · have hna := way0 h4 z
    rintro v I5 L5 A5 ⟨h5, rfl, rfl, rfl⟩
    rw [(hs3 b hb8).1] at h5
    refine ⟨fun z => ⟨_, m_degreeOf hm (show a < 30 by omega), ?_⟩, fun z => main ?_⟩
    · have hnb := way0 h5 z
      rintro v I6 L6 A6 ⟨rfl, rfl, rfl, rfl⟩
      refine ⟨_, m_degreeOf hm (show b < 30 by omega), ?_⟩
      rintro v I7 L7 A7 ⟨rfl, rfl, rfl, rfl⟩
      rw [(hs3 a ha8).1, (hs3 b hb8).1, lnP_87 da, lnP_87 db]
      obtain ⟨d, hd1, hd2, hd3⟩ := dg_ex (P a) 7 da hna
      obtain ⟨e, he1, he2, he3⟩ := dg_ex (P b) 7 db hnb
      have la : lnP (P a) 7 = d + 1 := lnP_of hd3 (fun x hx => by rw [show x = d by omega]; exact hd2) (by omega)
      have lb : lnP (P b) 7 = e + 1 := lnP_of he3 (fun x hx => by rw [show x = e by omega]; exact he2) (by omega)
      rw [la, lb, tp_s, tp_s]
      have hsum : (nI d + nI e).toInt = ((d + e : Nat) : Int) := by rw [iadd (by rw [tI (by omega), tI (by omega)]; omega) (by rw [tI (by omega), tI (by omega)]; omega), tI (by omega), tI (by omega)]; omega
      refine ⟨fun z => main ?_, fun z => ?_⟩
      · rw [ile, hsum, show (6 : Int32).toInt = 6 from by decide] at z
        exact dl_mono (pm_dl d _ _ e hd3 he3) (by omega)
      · rw [ile, hsum, show (6 : Int32).toInt = 6 from by decide] at z
        exact Or.inl ⟨hok, ⟨P, Or.inr ⟨not_sm7_mul ⟨hd2, hd3⟩ ⟨he2, he3⟩ (by omega), rfl, rfl⟩, hs3⟩, u2_self _ _ _ _, fr_0 hru3, rfl⟩
    · rw [way1 h5 z, show pm (P a) p0 = p0 from funext fun k => by rw [pm_comm, pm_0l]]
      exact fun _ _ => rfl
  · rw [way1 h4 z, pm_0l]
    exact fun _ _ => rfl
set_option maxHeartbeats 1000000 in
theorem m_derive {m : Nat} {t a : Int32} {P : Nat → PP} (hm : isX7 K m) (hs : RSlots m L P) : ConI K yX7_derive wsX7_derive 2 46 I L A [.ref m, .int t, .int a] (refP m (okS t ∧ okS a) (fun v P' => keepA P (ix t) (drv (P (ix a))) v P') I L A) := by
  have no : ¬ (okS t ∧ okS a) → wp_X7_derive_19 K m t a I L A m (refP m (okS t ∧ okS a) (fun v P' => keepA P (ix t) (drv (P (ix a))) v P') I L A) := by
    intro hn
    unfold wp_X7_derive_19 wp_X7_derive_20
    refine ⟨hm.1, _, m_refused hm (Or.inr rfl), ?_⟩
    rintro v I1 L1 A1 ⟨rfl, rfl, rfl, rfl⟩
    exact ⟨fun z => absurd z (by decide), fun _ => Or.inr ⟨hn, rfl, rfl, rfl⟩⟩
  apply w_X7_derive
  unfold wp_X7_derive
  refine ⟨_, m_isSlot, ?_⟩
  rintro v I1 L1 A1 ⟨h1, rfl, rfl, rfl⟩
  refine ⟨fun z => no (fun w => way0 h1 z w.1), fun z => ⟨_, m_isSlot, ?_⟩⟩
  have ht := way1 h1 z
  rintro v I1 L1 A1 ⟨h1, rfl, rfl, rfl⟩
  refine ⟨fun z => no (fun w => way0 h1 z w.2), fun z => ?_⟩
  have ha := way1 h1 z
  have hok : okS t ∧ okS a := ⟨ht, ha⟩
  clear no h1 z
  obtain ⟨t, ht8, rfl⟩ := okS_n ht
  obtain ⟨a, ha8, rfl⟩ := okS_n ha
  rw [ixn (by omega), ixn (by omega)]
  unfold wp_X7_derive_20
  refine ⟨hm.1, _, m_refused hm (Or.inl rfl), ?_⟩
  rintro v I2 L2 A2 ⟨rfl, rfl, rfl, rfl⟩
  refine ⟨fun _ => ⟨hm.1, _, m_clear hm (show 8 < 30 by omega), ?_⟩, fun z => absurd rfl z⟩
  rintro I3 L3 A3 ⟨hz8, hru3, rfl, rfl⟩
  unfold wp_X7_derive_36
  refine ⟨fun μ I' L' A' x => ∃ i, i + μ = 7 ∧ 1 ≤ i ∧ x = nI i ∧ I' = u2 I1 m 0 0 ∧ (∀ k, k < 8 → rp L' m 8 k = if k + 1 < i then drv (P a) k else 0) ∧ RU m (· = 8) L2 L' ∧ A' = A3, 6, ⟨1, rfl, Nat.le_refl 1, rfl, rfl, fun k hk => by rw [hz8, if_neg (by omega)]; rfl, hru3, rfl⟩, ?_⟩
  rintro μ C hC I' L' A' _ ⟨i, hi, hi1, rfl, rfl, h1, h2, rfl⟩
  have hs' := hs.ru h2 no8
  refine ⟨fun z => ⟨hm.1, _, m_finish hm hs' ht8, ?_⟩, fun z => ?_⟩
  · rw [ile, li7, tI (by omega)] at z
    have hi7 : i = 7 := by omega
    subst hi7
    rintro v I4 L4 A4 ⟨⟨P', hk, hS⟩, hru, rfl, rfl⟩
    have hR : rp L' m 8 = drv (P a) := funext fun k => by
      have h0 : 6 ≤ k → drv (P a) k = 0 := fun w => by unfold drv; rw [(hs a ha8).2.1 (k + 1) (by omega)]; simp
      by_cases y : k < 8
      · rw [h1 k y]
        by_cases y2 : k + 1 < 7
        · rw [if_pos y2]
        · rw [if_neg y2, h0 (by omega)]
      · rw [rp, if_neg y, h0 (by omega)]
    rw [hR] at hk
    exact Or.inl ⟨hok, ⟨P', hk, hS⟩, u2_self _ _ _ _, fr_0 ((h2.mono (fun r hr => (show r < 9 by omega))).trans (hru.mono (fun r hr => (show r < 9 by omega)))), rfl⟩
  · rw [ile, li7, tI (by omega)] at z
    have h64 := six4 (show i < 8 by omega) (x := nI i) rfl
    have hix : ((64 : Int32) + nI i - 1).toInt = ((8 * 8 + (i - 1) : Nat) : Int) := by rw [isub (by rw [h64, li1]; omega) (by rw [h64, li1]; omega), h64, li1]; omega
    have hixa := rix (show a < 30 by omega) (show i < 8 by omega) (x := nI a) rfl (tI (k := i) (by omega))
    refine ⟨hm.1, rok hm (show a < 30 by omega) (show i < 8 by omega) hixa, rok hm (show 8 < 30 by omega) (show i - 1 < 8 by omega) hix, fun L5 e5 v hv => ?_⟩
    rw [ix_of hix, ix_of hixa] at e5
    have ea : (L' (m + 1) (8 * a + i)).toInt = P a i := by rw [← rp_lt (by omega), (hs' a ha8).1]
    have ba := (hs a ha8).2.2 i
    refine hC (μ - 1) _ _ _ _ (by omega) ⟨i + 1, by omega, by omega, by rw [hv, sI], rfl, fun k hk => ?_, h2.trans (by rw [e5]; exact u2_ru (by omega)), rfl⟩
    rw [rp_lt hk, e5]
    by_cases y : k = i - 1
    · subst y
      rw [u2_self, if_pos (by omega), jmulB (m := 7) (n := 300) (by rw [Int32.toInt_toInt64, tI (by omega)]; omega) (by rw [ea]; omega) (by decide), Int32.toInt_toInt64, tI (by omega), ea]
      unfold drv
      rw [show i - 1 + 1 = i by omega]
      congr 1
      omega
    · rw [u2_ne _ _ (fun w => y (by omega)), ← rp_lt hk, h1 k hk]
      by_cases y2 : k + 1 < i
      · rw [if_pos y2, if_pos (by omega)]
      · rw [if_neg y2, if_neg (by omega)]
end
