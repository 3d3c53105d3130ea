/-! THE REFERENCE: pattern -/
section
variable {K : Cx} {I : TI} {L : TL} {A : TA}
theorem gcdm_ascy {p : Int} {G x y y' : PP} (h : GcdM p G x y) (ha : asc p y y') : GcdM p G x y' := by
  obtain ⟨⟨u, v, hu, hv, e⟩, hx, hy⟩ := h
  obtain ⟨s, hs, es⟩ := ha.2
  refine ⟨⟨u, pm v s, hu, hv.mul hs, ?_⟩, hx, dmP.trans (show dmP p G y from hy) ha.1⟩
  rw [pma]
  exact e.trans ((cg.refl _ _).add (es.mul_r v))
theorem cg_mod (p : Int) (f : PP) : cg p (fun k => f k % p) f := fun k => mod_dvd (f k) p
set_option maxHeartbeats 4000000 in
theorem m_pattern {m : Nat} {s q : Int32} {P : Nat → PP} (hm : isX7 K m) (hs : RSlots m L P) : ConI K yX7_pattern wsX7_pattern 4 97 I L A [.ref m, .int s, .int q] (fun v I' L' A' => ((okS s ∧ okPr q) ∧ I' m 0 = 0 ∧ L' = L ∧ A' = A ∧ FrP m I I' ∧ ∃ l, patA (ix q) (P (ix s)) v l ∧ RPl m I' l) ∨ (¬ (okS s ∧ okPr q) ∧ I' = u2 I m 0 1 ∧ L' = L ∧ A' = A)) := by
  have no : ¬ (okS s ∧ okPr q) → wp_X7_pattern_19 K m s q I L A m (fun v I' L' A' => ((okS s ∧ okPr q) ∧ I' m 0 = 0 ∧ L' = L ∧ A' = A ∧ FrP m I I' ∧ ∃ l, patA (ix q) (P (ix s)) v l ∧ RPl m I' l) ∨ (¬ (okS s ∧ okPr q) ∧ I' = u2 I m 0 1 ∧ L' = L ∧ A' = A)) := by
    intro hn
    unfold wp_X7_pattern_19 wp_X7_pattern_20
    refine ⟨hm.1, _, m_refused hm (Or.inr rfl), ?_⟩
    rintro v I1 L1 A1 ⟨rfl, rfl, rfl, rfl⟩
    exact ⟨fun z => absurd z (by decide), fun _ => Or.inr ⟨hn, rfl, rfl, rfl⟩⟩
  apply w_X7_pattern
  unfold wp_X7_pattern
  refine ⟨_, m_isSlot, ?_⟩
  rintro v I1 L1 A1 ⟨h1, rfl, rfl, rfl⟩
  refine ⟨fun z => no (fun w => way0 h1 z w.1), fun z => ⟨_, m_isPrime, ?_⟩⟩
  have hsl := way1 h1 z
  rintro v I1 L1 A1 ⟨h1, rfl, rfl, rfl⟩
  refine ⟨fun z => no (fun w => way0 h1 z w.2), fun z => ?_⟩
  have hpr := way1 h1 z
  clear no h1 z
  have hok : okS s ∧ okPr q := ⟨hsl, hpr⟩
  obtain ⟨s, hs8, rfl⟩ := okS_n hsl
  obtain ⟨p, hqp⟩ : ∃ p : Nat, q.toInt = p := ⟨q.toInt.toNat, by have := hpr.1; omega⟩
  have hq : q = nI p := eqn hqp
  subst hq
  have hPm : PmR p := by
    obtain ⟨a, b, c⟩ := hpr
    rw [hqp] at a b c
    exact ⟨c, by omega⟩
  have hp1 : 1 < p := by have := hPm.1.1; omega
  have hp9 := hPm.2
  rw [ixn (by omega), ixn (by omega)]
  obtain ⟨f, hf⟩ : ∃ f : PP, f = P s := ⟨_, rfl⟩
  have hfs : sm7 f := by rw [hf]; exact (hs s hs8).2
  have hrow : rp L1 m s = f := by rw [hf]; exact (hs s hs8).1
  rw [← hf]
  obtain ⟨Q, hQ⟩ : ∃ Q : Int32 → TI → TL → TA → Prop, Q = fun v I' L' A' => ((okS (nI s) ∧ okPr (nI p)) ∧ I' m 0 = 0 ∧ L' = L1 ∧ A' = A1 ∧ FrP m I1 I' ∧ ∃ l, patA p f v l ∧ RPl m I' l) ∨ (¬ (okS (nI s) ∧ okPr (nI p)) ∧ I' = u2 I1 m 0 1 ∧ L' = L1 ∧ A' = A1) := ⟨_, rfl⟩
  rw [← hQ]
  have done : ∀ (v : Int32) (I' : TI) (l : List Nat), I' m 0 = 0 → FrP m I1 I' → patA p f v l → RPl m I' l → Q v I' L1 A1 := fun v I' l h1 h2 h3 h4 => by
    rw [hQ]; exact Or.inl ⟨hok, h1, rfl, rfl, h2, l, h3, h4⟩
  unfold wp_X7_pattern_20
  refine ⟨hm.1, _, m_refused hm (Or.inl rfl), ?_⟩
  rintro v I2 L2 A2 ⟨rfl, rfl, rfl, rfl⟩
  refine ⟨fun _ => ⟨hm.1, fun I3 e3 => ⟨_, m_degreeOf hm (show s < 30 by omega), ?_⟩⟩, fun z => absurd rfl z⟩
  rintro v I4 L4 A4 ⟨rfl, rfl, rfl, rfl⟩
  have hfr3 : FrP m I1 I4 := ⟨fun y h1 _ _ => by rw [e3, u2_off _ _ h1, u2_off _ _ h1], fun k h1 h2 _ => by rw [e3, u2_ne _ _ (by omega), u2_ne _ _ (by omega)]⟩
  have h03 : I4 m 0 = 0 := by rw [e3, u2_ne _ _ (by omega), u2_self]
  have h113 : I4 m 11 = nI 0 := by rw [e3, u2_self]; rfl
  have l1 : (1 : Int32).toInt = 1 := by decide
  have hle := lnP_le f 8
  rw [hrow]
  refine ⟨fun z => ?_, fun z => ?_⟩
  rotate_left
  · rw [ile, l1, tm1 (by omega)] at z
    refine done (-3) _ [] h03 hfr3 (Or.inl ⟨by rw [← lnP_87 hfs.1]; omega, rfl, rfl⟩) ⟨h113, by show 0 ≤ 6; omega, fun i hi => absurd hi (Nat.not_lt_zero _)⟩
  rw [ile, l1, tm1 (by omega)] at z
  obtain ⟨d, hd1, hd, hd8⟩ : ∃ d, lnP f 8 = d + 1 ∧ dgI f d ∧ d < 8 := by
    rcases lnP_res (dl_mono hfs.1 (show 7 ≤ 8 by omega)) with ⟨w, -⟩ | ⟨d, w, h2, h3⟩
    · omega
    · exact ⟨d, w, h2, h3⟩
  have hd7 : d < 7 := hd.lt hfs.1
  have hd0 : 0 < d := by omega
  rw [hd1, tp_s]
  intro I5 e5
  obtain ⟨F, hF⟩ : ∃ F : PP, F = fun k => f k % (p : Int) := ⟨_, rfl⟩
  have hFk : ∀ k, F k = f k % (p : Int) := fun k => by rw [hF]
  have rF : rsd p F := fun k => by rw [hFk]; exact ⟨Int.emod_nonneg _ (by omega), Int.emod_lt_of_pos _ (by omega)⟩
  have hFd : dl F (d + 1) := fun k hk => by rw [hFk, hd.2 k hk]; rfl
  have cF : cg p F f := by rw [hF]; exact cg_mod _ f
  have hfr5 : FrP m I1 I5 := hfr3.trans ⟨fun y h1 _ _ => by rw [e5, u2_off _ _ h1], fun k _ _ h3 => by rw [e5, u2_ne _ _ (by omega)]⟩
  have h05 : I5 m 0 = 0 := by rw [e5, u2_ne _ _ (by omega)]; exact h03
  have h115 : I5 m 11 = nI 0 := by rw [e5, u2_ne _ _ (by omega)]; exact h113
  have h195 : I5 m 19 = nI p := by rw [e5, u2_self]
  have rp0 : ∀ {I' : TI} {S : Nat → Prop}, MU m S I5 I' → RPl m I' [] := fun h => ⟨by rw [h.own]; exact h115, by show 0 ≤ 6; omega, fun i hi => absurd hi (Nat.not_lt_zero _)⟩
  -- rows 0 and 1
  unfold wp_X7_pattern_55
  refine ⟨fun μ I' L' A' x3 x4 => ∃ k, k + μ = 16 ∧ x3 = nI d ∧ x4 = nI k ∧ (∀ j, j < k → mp I' m 0 j = F j ∧ mp I' m 1 j = F j) ∧ MU m (fun r => r = 0 ∨ r = 1) I5 I' ∧ L' = L4 ∧ A' = A4, 16, ⟨0, rfl, rfl, rfl, fun j hj => absurd hj (Nat.not_lt_zero _), MU.refl _ _ _, rfl, rfl⟩, ?_⟩
  rintro μ C hC I' L' A' _ _ ⟨k, hk, rfl, rfl, z1, z2, rfl, rfl⟩
  refine ⟨fun w => ?_, fun w => ?_⟩
  rotate_left
  · rw [ile, li16, tI (by omega)] at w
    have hk16 : k < 16 := by omega
    have step : ∀ y0 : Int32, y0.toInt = F k → wp_X7_pattern_100 K m (nI s) (nI p) C I' L' A' (nI d) (nI k) y0 (nI k) (m + 8) Q := by
      intro y0 hy0
      unfold wp_X7_pattern_100
      have l16 : (16 : Int32).toInt = ((16 * 1 : Nat) : Int) := by decide
      have hix0 : (nI k).toInt = ((16 * 0 + k : Nat) : Int) := by rw [tI (by omega)]; omega
      have hix1 := sixn l16 (by omega) hk16 (tI (k := k) (by omega))
      rw [ix_of hix0, ix_of hix1]
      refine ⟨mok hm (show 0 < 10 by omega) hk16 hix0, fun I97 e97 => ⟨hm.1, mok hm (show 0 < 10 by omega) hk16 hix0, mok hm (show 1 < 10 by omega) hk16 hix1, fun I101 e101 v102 e102 => ?_⟩⟩
      have ma : MU m (fun r => r = 0 ∨ r = 1) I' I97 := by rw [e97]; exact (mu_u2 (r := 0) hk16).mono (fun r h => Or.inl h)
      have mb : MU m (fun r => r = 0 ∨ r = 1) I97 I101 := by rw [e101]; exact (mu_u2 (r := 1) hk16).mono (fun r h => Or.inr h)
      refine hC (μ - 1) _ _ _ _ _ (by omega) ⟨k + 1, by omega, rfl, by rw [e102, sI], fun j hj => ?_, (z2.trans ma).trans mb, rfl, rfl⟩
      have h97 : I97 (m + 8) (16 * 0 + k) = y0 := by rw [e97, u2_self]
      rw [mp_lt (by omega), mp_lt (by omega), e101, u2_ne _ _ (by omega), h97]
      by_cases y : j = k
      · subst y
        rw [u2_self, h97]; exact ⟨hy0, hy0⟩
      · rw [u2_ne _ _ (by omega), e97, u2_ne _ _ (by omega), u2_ne _ _ (by omega), ← mp_lt (by omega), ← mp_lt (by omega)]
        exact z1 j (by omega)
    refine ⟨hm.1, fun y => ?_, fun y => ?_⟩
    · rw [ilt, tI (by omega), tI (by omega)] at y
      exact step 0 (by rw [hFd k (by omega)]; rfl)
    · rw [ilt, tI (by omega), tI (by omega)] at y
      have hix := rix (show s < 30 by omega) (show k < 8 by omega) (x := nI s) rfl (tI (k := k) (by omega))
      have hval : (L' (m + 1) (8 * s + k)).toInt = f k := by rw [← rp_lt (by omega), hrow]
      have hb := hfs.2 k
      obtain ⟨j1, j2⟩ := jmod (r := L' (m + 1) (8 * s + k)) (p := p) (by rw [hval]; omega) hp1 hp9
      rw [hval] at j2
      rw [ix_of hix, j2]
      refine ⟨rok hm (by omega) (by omega) hix, j1, j1, step _ ?_⟩
      have := rF k
      rw [← hFk, tI (by omega)]
      omega
  rw [ile, li16, tI (by omega)] at w
  have hk16 : k = 16 := by omega
  subst hk16
  have hFr : ∀ r, (r = 0 ∨ r = 1) → mp I' m r = F := fun r hr => funext fun j => by
    by_cases y : j < 16
    · rcases hr with rfl | rfl
      · exact (z1 j y).1
      · exact (z1 j y).2
    · rw [mp_dl I' m r j (by omega), hFd j (by omega)]
  -- row 2: the derivative
  obtain ⟨DF, hDF⟩ : ∃ DF : PP, DF = fun k => drv F k % (p : Int) := ⟨_, rfl⟩
  have hDFk : ∀ k, DF k = ((k : Int) + 1) * F (k + 1) % (p : Int) := fun k => by rw [hDF]; rfl
  have rDF : rsd p DF := fun k => by rw [hDFk]; exact ⟨Int.emod_nonneg _ (by omega), Int.emod_lt_of_pos _ (by omega)⟩
  have hDF0 : ∀ k, d ≤ k → DF k = 0 := fun k hk => by rw [hDFk, hFd (k + 1) (by omega)]; simp
  have cDF : cg p DF (drv F) := by rw [hDF]; exact cg_mod _ _
  clear hC
  unfold wp_X7_pattern_127
  refine ⟨fun μ I'' L'' A'' x3 x4 => ∃ k, k + μ = 16 ∧ x3 = nI d ∧ x4 = nI k ∧ (∀ j, j < k → mp I'' m 2 j = DF j) ∧ MU m (fun r => r = 2) I' I'' ∧ L'' = L' ∧ A'' = A', 16, ⟨0, rfl, rfl, rfl, fun j hj => absurd hj (Nat.not_lt_zero _), MU.refl _ _ _, rfl, rfl⟩, ?_⟩
  rintro μ C hC I6 L6 A6 _ _ ⟨k, hk, rfl, rfl, y1, y2, rfl, rfl⟩
  have l32 : (32 : Int32).toInt = ((16 * 2 : Nat) : Int) := by decide
  refine ⟨fun w => ?_, fun w => ?_⟩
  rotate_left
  · rw [ile, li16, tI (by omega)] at w
    have hk16 : k < 16 := by omega
    have hix := sixn l32 (by omega) hk16 (tI (k := k) (by omega))
    have step : ∀ (I7 : TI) (v : Int32) (y0 : Int32), y0.toInt = DF k → I7 = u2 I6 (m + 8) (16 * 2 + k) y0 → v = nI k + 1 → C I7 L6 A6 (nI d) v := fun I7 v y0 h1 h2 h3 => by
      refine hC (μ - 1) _ _ _ _ _ (by omega) ⟨k + 1, by omega, rfl, by rw [h3, sI], fun j hj => ?_, y2.trans (by rw [h2]; exact mu_u2 hk16), rfl, rfl⟩
      rw [mp_lt (by omega), h2]
      by_cases y : j = k
      · rw [y, u2_self]; exact h1
      · rw [u2_ne _ _ (by omega), ← mp_lt (by omega)]; exact y1 j (by omega)
    rw [ix_of hix]
    refine ⟨hm.1, fun y => ⟨mok hm (by omega) hk16 hix, fun I7 e7 v e8 => step I7 v 0 ?_ e7 e8⟩, fun y => ?_⟩
    · rw [ile, tI (by omega), tI (by omega)] at y
      rw [hDF0 k (by omega)]; rfl
    · rw [ile, tI (by omega), tI (by omega)] at y
      have hixk : (nI k + 1).toInt = ((16 * 0 + (k + 1) : Nat) : Int) := by rw [sI, tI (by omega)]; omega
      rw [ix_of hixk]
      obtain ⟨t, htp, ht⟩ := rF.nat (k + 1)
      have hv : (I6 (m + 8) (16 * 0 + (k + 1))).toInt = t := by rw [← mp_lt (by omega), y2.same (show ¬ 0 = 2 by omega), hFr 0 (Or.inl rfl), ht]
      have hmul : t * (k + 1) ≤ 997 * 16 := Nat.mul_le_mul (by omega) (by omega)
      have hk1 : (nI k + 1).toInt = ((k + 1 : Nat) : Int) := by rw [sI]; exact tI (by omega)
      obtain ⟨hres, hne⟩ := irem_n (imul_n hv hk1 (by omega)) (tI (k := p) (by omega)) (by omega)
      rw [hres]
      refine ⟨mok hm (show 0 < 10 by omega) (show k + 1 < 16 by omega) hixk, hne, mok hm (by omega) hk16 hix, fun I7 e7 v e8 => step I7 v _ ?_ e7 e8⟩
      have := Nat.mod_lt (t * (k + 1)) (show 0 < p by omega)
      rw [tI (by omega), hDFk, ht, Int.natCast_emod, Int.natCast_mul, Int.mul_comm]
      congr 2
  rw [ile, li16, tI (by omega)] at w
  have hk16 : k = 16 := by omega
  subst hk16
  have h26 : mp I6 m 2 = DF := funext fun j => by
    by_cases y : j < 16
    · exact y1 j y
    · rw [mp_dl I6 m 2 j (by omega), hDF0 j (by omega)]
  have h06 : mp I6 m 0 = F := (y2.same (show ¬ 0 = 2 by omega)).trans (hFr 0 (Or.inl rfl))
  have h16 : mp I6 m 1 = F := (y2.same (show ¬ 1 = 2 by omega)).trans (hFr 1 (Or.inr rfl))
  have mu6 : MU m (fun _ => True) I5 I6 := (z2.mono (fun _ _ => trivial)).trans (y2.mono (fun _ _ => trivial))
  have hixd : (nI d).toInt = ((16 * 0 + d : Nat) : Int) := by rw [tI (by omega)]; omega
  have hlead : (I6 (m + 8) (16 * 0 + d)).toInt = F d := by rw [← mp_lt (by omega), h06]
  have hFd0 : F d = 0 ↔ (p : Int) ∣ f d := by
    rw [hFk]
    exact ⟨fun h => Int.dvd_of_emod_eq_zero h, fun h => Int.emod_eq_zero_of_dvd h⟩
  have ascF : asc p f F := asc.of_cg cF.symm
  have ascD : asc p (drv f) DF := asc.of_cg (cDF.trans cF.drv').symm
  rw [ix_of hixd, i0z, hlead, hFd0]
  refine ⟨hm.1, mok hm (show 0 < 10 by omega) (show d < 16 by omega) hixd, fun y => ?_, fun y => ?_⟩
  · exact done _ _ [] (by rw [mu6.own]; exact h05) (hfr5.trans mu6.fp) (Or.inr (Or.inl ⟨d, hd0, hd, Or.inl y, rfl, rfl⟩)) (rp0 mu6)
  have hFdg : dgI F d := ⟨fun w => y (hFd0.mp w), hFd⟩
  have h196 : I6 m 19 = nI p := by rw [mu6.own]; exact h195
  refine ⟨_, m_modCommon hm hPm h196 h16 h26 rF rDF, ?_⟩
  rintro I7 L7 A7 ⟨⟨G, hG, rG, hgcd⟩, mu7, rfl, rfl⟩
  refine ⟨_, m_modDegree (r := 3) hm (by omega), ?_⟩
  rintro v I8 L8 A8 ⟨rfl, rfl, rfl, rfl⟩
  have hG16 : dl G 16 := by rw [← hG]; exact mp_dl I8 m 3
  have hGn : ¬ al p G := fun w => (rsd_md rF hFdg).nal (fun k => by
    obtain ⟨s, hs, es⟩ := hgcd.dx
    have h2 : cg p F p0 := es.trans (by have := (al_cg w).mul_r s; rw [pmc s p0, pm_0l] at this; exact this)
    have h3 : (p : Int) ∣ F k - 0 := h2 k
    rw [Int.sub_zero] at h3; exact h3)
  obtain ⟨e, he16, hGe⟩ := rsd_dg rG hG16 hGn
  have hGm : md p G e := rsd_md rG hGe
  have hlG : lnP G 16 = e + 1 := lnP_of hGe.2 (fun z hz => by rw [show z = e by omega]; exact hGe.1) (by omega)
  have mu8 : MU m (fun _ => True) I5 I8 := mu6.trans (mu7.mono (fun _ _ => trivial))
  rw [hG, hlG, tp_s]
  refine ⟨fun y3 => ?_, fun y3 => ?_⟩
  rotate_left
  · rw [ile, li0, tI (by omega)] at y3
    exact done _ _ [] (by rw [mu8.own]; exact h05) (hfr5.trans mu8.fp) (Or.inr (Or.inl ⟨d, hd0, hd, Or.inr ⟨y, F, DF, G, e, ascF, ascD, hgcd, hGm, by omega⟩, rfl, rfl⟩)) (rp0 mu8)
  rw [ile, li0, tI (by omega)] at y3
  have he0 : e = 0 := by omega
  subst he0
  have h08 : mp I8 m 0 = F := (mu7.same (show ¬ (0 = 1 ∨ 0 = 2 ∨ 0 = 3 ∨ 0 = 9) by omega)).trans h06
  -- row 4: x
  clear hC
  unfold wp_X7_pattern_204
  obtain ⟨x, hx⟩ : ∃ x : PP, x = px (pk0 1) := ⟨_, rfl⟩
  have hxk : ∀ k, x k = if k = 1 then 1 else 0 := fun k => by
    rw [hx]
    match k with
    | 0 => rfl
    | 1 => rfl
    | k + 2 => rw [if_neg (by omega)]; rfl
  refine ⟨fun μ I'' L'' A'' x4 => ∃ k, k + μ = 16 ∧ x4 = nI k ∧ (∀ j, j < k → mp I'' m 4 j = x j) ∧ MU m (fun r => r = 4) I8 I'' ∧ L'' = L8 ∧ A'' = A8, 16, ⟨0, rfl, rfl, fun j hj => absurd hj (Nat.not_lt_zero _), MU.refl _ _ _, rfl, rfl⟩, ?_⟩
  rintro μ C hC I9 L9 A9 _ ⟨k, hk, rfl, w1, w2, rfl, rfl⟩
  have l64 : (64 : Int32).toInt = ((16 * 4 : Nat) : Int) := by decide
  refine ⟨fun w => ?_, fun w => ?_⟩
  rotate_left
  · rw [ile, li16, tI (by omega)] at w
    have hk16 : k < 16 := by omega
    have hix := sixn l64 (by omega) hk16 (tI (k := k) (by omega))
    have step : ∀ (Ia : TI) (v : Int32) (y0 : Int32), y0.toInt = x k → Ia = u2 I9 (m + 8) (16 * 4 + k) y0 → v = nI k + 1 → C Ia L9 A9 v := fun Ia v y0 h1 h2 h3 => by
      refine hC (μ - 1) _ _ _ _ (by omega) ⟨k + 1, by omega, by rw [h3, sI], fun j hj => ?_, w2.trans (by rw [h2]; exact mu_u2 hk16), rfl, rfl⟩
      rw [mp_lt (by omega), h2]
      by_cases y : j = k
      · rw [y, u2_self]; exact h1
      · rw [u2_ne _ _ (by omega), ← mp_lt (by omega)]; exact w1 j (by omega)
    have hk1 : nI k = 1 ↔ k = 1 := by rw [← Int32.toInt_inj, tI (by omega), l1]; omega
    rw [ix_of hix, hk1]
    refine ⟨hm.1, fun y5 => ⟨mok hm (by omega) hk16 hix, fun Ia ea v ev => step Ia v 1 (by rw [hxk, if_pos y5]; rfl) ea ev⟩, fun y5 => ⟨mok hm (by omega) hk16 hix, fun Ia ea v ev => step Ia v 0 (by rw [hxk, if_neg y5]; rfl) ea ev⟩⟩
  rw [ile, li16, tI (by omega)] at w
  have hk16 : k = 16 := by omega
  subst hk16
  have h49 : mp I9 m 4 = x := funext fun j => by
    by_cases y5 : j < 16
    · exact w1 j y5
    · rw [mp_dl I9 m 4 j (by omega), hxk, if_neg (by omega)]
  have h09 : mp I9 m 0 = F := (w2.same (show ¬ 0 = 4 by omega)).trans h08
  have mu9 : MU m (fun _ => True) I5 I9 := mu8.trans (w2.mono (fun _ _ => trivial))
  have rx : rsd p x := fun k => by rw [hxk]; split <;> omega
  have hst : PtL m p 0 F I9 F d [] := ⟨by omega, h09, rF, hFdg, by omega, ⟨x, h49, rx, by
    rw [Nat.pow_zero]
    have : pw (px (pk0 1)) 1 = x := by rw [hx]; exact pm_1r _
    rw [this]; exact cgf.refl _ _ _⟩, Chn.start p F, sqf_of hPm.1 (gcdm_ascy hgcd (asc.of_cg cDF)) hGm, minD1 _ _, by show 0 + d ≤ 6; omega, rp0 mu9, by rw [mu9.own]; exact h195, by rw [mu9.own]; exact h05⟩
  refine m_pattern_loop hm hPm hst (fun I' R' l' n' g1 g2 g3 g4 g5 => ?_)
  exact done _ _ l' g5 ((hfr5.trans mu9.fp).trans g1) (Or.inr (Or.inr ⟨d, hd0, hd, y, ⟨F, DF, G, ascF, ascD, hgcd, hGm⟩, ⟨F, n', R', ascF, g2, g3⟩, rfl⟩)) g4
end
