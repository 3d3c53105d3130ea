/-! FACTORING: takeApart -/
section
variable {K : Cx} {I : TI} {L : TL} {A : TA}
theorem j2i {x : Int64} (h1 : -2147483648 ≤ x.toInt) (h2 : x.toInt < 2147483648) : (Int64.toInt32 x).toInt = x.toInt := by
  rw [Int64.toInt_toInt32]; exact Int.bmod_eq_of_le (by omega) (by omega)
theorem ChM.fab {a b o : Nat} {S : Nat → Prop} {I' : TI} {L' : TL} (h : ChM S o I I' L L') (ho : a ≤ o ∧ o < b) (hS : ∀ r, S r → a ≤ r ∧ r + 1 < b) : Fr a b I I' L L' := fun y hy => ⟨h.1 y (fun w => hy (by have := hS y w; omega)), h.2 y (fun e => hy (by omega)) (fun r hr e => hy (by have := hS r hr; omega))⟩
theorem sgd_bd {f : PP} {d : Nat} (hs : sm7 f) (hd : dgI f d) : (sgd f (d + 1)).natAbs ≤ 300 := by
  have h1 := sgd_dvd hd.2 d
  have h2 := Int.natAbs_dvd_natAbs.mpr h1
  have h3 := Nat.le_of_dvd (Int.natAbs_pos.mpr hd.1) h2
  have := hs.2 d
  omega
theorem Fr.row {f u d : Nat} {I' : TI} {L' : TL} (h : Fr f (f + 84) I I' L L') (n : RowN I L u d) (hu : u + 1 < f ∨ f + 84 ≤ u) : RowN I' L' u d := n.fr h (by omega)
set_option maxHeartbeats 4000000 in
theorem s_takeApart {f u d : Nat} {fx : PP} (hf : isX0 K f) (h5 : isX5 K (f + 1)) (hA5 : AX5 A (f + 1)) (ho : isX2 K (f + 69)) (hPA : PermA A (f + 69)) (hu : isRow K u) (hout : u + 1 < f ∨ f + 84 ≤ u) (nu : RowN I L u (d + 1)) (pu : pl L u = fx) (hs : sm7 fx) : ConV K yX0_takeApart wsX0_takeApart 6 160 I L A [.ref f, .ref u] (fun I' L' A' => (∃ f1, ppA fx f1 ∧ TkO f f1 I' L' A') ∧ (I' (f + 69) 3).toInt = cnt fx ∧ PermA A' (f + 69) ∧ (∀ y, y ≠ f + 70 → A' y = A y) ∧ Fr f (f + 84) I I' L L') := by
  have hf' := hf
  obtain ⟨hf0, hx3, h55, h57, h59, h61, h63, h65, h67⟩ := hf'
  have hd13 := nu.1.2.1
  have hfd : dgI fx d := by rw [← pu]; exact nu.dg
  have hd7 := hfd.lt hs.1
  have hfx0 : fx ≠ p0 := hfd.ne
  have hcnt : cnt fx = sgd fx (d + 1) := by
    unfold cnt
    rw [lnP_of hfd.2 (fun z hz => by rw [show z = d by omega]; exact hfd.1) (show d + 1 ≤ 8 by omega)]
  have hsb := sgd_bd hs hfd
  apply w_X0_takeApart
  unfold wp_X0_takeApart
  refine ⟨hf0, hu.1, _, s_signedMeasure hu nu.1 (fun k => by rw [pu]; have := hs.2 k; omega), ?_⟩
  rintro v I1 L1 A1 ⟨hv, rfl, rfl, rfl⟩
  rw [pu] at hv
  refine ⟨ho.1, _, s_begin ho, ?_⟩
  rintro I2 L2 A2 ⟨b2, b3, bk, rfl, rfl⟩
  have f2 : Fr f (f + 84) I1 I2 L2 L2 := fun y hy => ⟨bk y (by omega), rfl⟩
  have h33 : (I2 (f + 69) 3).toInt = cnt fx := by rw [b3, j2i (by rw [hv]; omega) (by rw [hv]; omega), hv, hcnt]
  have hIu : I2 u 1 = nI d := by rw [bk u (by omega), nu.1.1, tp_s]
  have hfl2 : FLs (f + 69) I2 L2 A2 0 (fun _ => p0) (fun _ => 0) := ⟨b2, by omega, fun i hi => absurd hi (Nat.not_lt_zero _)⟩
  refine ⟨fun z => ?_, fun z => ?_⟩
  rotate_left
  · rw [hIu, ile, tI (by omega), li1] at z
    have : d = 0 := by omega
    subst this
    refine ⟨⟨pk0 1, Or.inr ⟨hfx0, prim_1, fx 0, 0, hfd.1, ?_, dgI_1, by show (0 : Int) < 1; decide⟩, 0, fun _ => p0, fun _ => 0, ⟨rfl, fun i hi => absurd hi (Nat.not_lt_zero _), fun i j hi => absurd hi (Nat.not_lt_zero _)⟩, fun i j _ hj => absurd hj (Nat.not_lt_zero _), hfl2⟩, h33, hPA, fun _ _ => rfl, f2⟩
    rw [dgI0 hfd]
    funext k
    show pk0 (fx 0) k = fx 0 * pk0 1 k
    cases k with
    | zero => show fx 0 = fx 0 * 1; omega
    | succ k => show (0 : Int) = fx 0 * 0; simp
  rw [hIu, ile, tI (by omega), li1] at z
  refine ⟨h55.1, _, s_become h55 hu, ?_⟩
  rintro I3 L3 A3 ⟨e3, e3', rfl⟩
  have c3 : ChR (· = f + 55) I2 I3 L2 L3 := by rw [e3, e3']; exact become_ch
  have f3 : Fr (f + 55) (f + 57) I2 I3 L2 L3 := c3.fab (fun r hr => by omega)
  have p3 : pl L3 (f + 55) = fx := by rw [← pu]; unfold pl; rw [e3', us_self]
  have n3 : RowN I3 L3 (f + 55) (d + 1) := ⟨⟨by rw [e3, u2_self, hIu, tp_s], nu.1.2.1, fun j h3 h4 => by rw [e3', us_self]; exact nu.1.2.2 j h3 h4⟩, fun e' he => by rw [p3, ← pu]; exact nu.2 e' he⟩
  refine ⟨_, s_makePrimitive h55 n3.1 (fun k => by rw [p3]; have := hs.2 k; omega), ?_⟩
  rintro I4 L4 A4 ⟨v4, st4, c4, rfl⟩
  rw [p3] at v4
  have hpp := pp_of hfd v4
  have f4 : Fr (f + 55) (f + 57) I3 I4 L3 L4 := c4.fab (fun r hr => by omega)
  obtain ⟨hpr, k0, d0, hk0, hfk, hd0, hd0p⟩ : prim (pl L4 (f + 55)) ∧ ∃ c d, c ≠ 0 ∧ fx = pc c (pl L4 (f + 55)) ∧ dgI (pl L4 (f + 55)) d ∧ 0 < pl L4 (f + 55) d := by
    rcases hpp with ⟨z, -⟩ | ⟨-, h2⟩
    · exact absurd z hfx0
    · exact h2
  obtain ⟨f0, hf0e⟩ : ∃ f0 : PF, f0.1 = pl L4 (f + 55) := ⟨plF L4 (f + 55), rfl⟩
  rw [← hf0e] at hpp hpr hfk hd0 hd0p
  have hdd0 : d0 = d := by
    have h1 : dgI (pc k0 f0.1) d0 := ⟨Int.mul_ne_zero hk0 hd0.1, fun k hk => by show k0 * _ = 0; rw [hd0.2 k hk]; simp⟩
    rw [← hfk] at h1
    exact h1.uniq hfd
  subst hdd0
  have hs7 : sm7 f0.1 := by
    refine ⟨fun k hk => hd0.2 k (by omega), fun k => ?_⟩
    have h1 : fx k = k0 * f0.1 k := congrFun hfk k
    have h2 := hs.2 k
    have h3 : (f0.1 k).natAbs ≤ (k0 * f0.1 k).natAbs := by
      rw [Int.natAbs_mul]; exact Nat.le_mul_of_pos_left _ (by omega)
    rw [← h1] at h3
    omega
  have hf00 : f0.1 ≠ p0 := hd0.ne
  have n4 : RowN I4 L4 (f + 55) (d0 + 1) := ⟨st4, fun e' he => by rw [← hf0e, show e' = d0 by omega]; exact hd0.1⟩
  refine ⟨h59.1, _, s_becomeSlope h59 h55 (by omega) n4.1, ?_⟩
  rintro I5 L5 A5 ⟨r5, c5, rfl⟩
  have f5 : Fr (f + 59) (f + 61) I4 I5 L4 L5 := c5.fab (fun r hr => by omega)
  have p5 : pl L5 (f + 59) = drv f0.1 := by rw [hf0e]; exact slope_i (B := 300) (fun k => by rw [← hf0e]; have := hs7.2 k; omega) (by decide) r5
  have hdd : dgI (drv f0.1) (d0 - 1) := by
    refine ⟨?_, fun k hk => ?_⟩
    · show (((d0 - 1 : Nat) : Int) + 1) * f0.1 (d0 - 1 + 1) ≠ 0
      rw [show d0 - 1 + 1 = d0 by omega]
      exact Int.mul_ne_zero (by omega) hd0.1
    · show _ * f0.1 (k + 1) = 0
      rw [hd0.2 (k + 1) (by omega), Int.mul_zero]
  have n5 : RowN I5 L5 (f + 59) (d0 - 1 + 1) := by
    have h1 := r5.rn
    have h2 := h1.len (e := d0 - 1) (by rw [p5]; exact hdd)
    rw [h2] at h1; exact h1
  have p55 : pl L5 (f + 55) = f0.1 := (fr_pl f5 (Or.inl (by omega))).trans hf0e.symm
  have n55 : RowN I5 L5 (f + 55) (d0 + 1) := n4.fr f5 (Or.inl (by omega))
  have hss : sm7s (drv f0.1) := by
    refine ⟨dl_mono (drv_dl6 hs7.1) (by omega), fun k => ?_⟩
    by_cases w : k < 6
    · have := mul_ab (a := (k : Int) + 1) (b := f0.1 (k + 1)) (m := 6) (n := 300) (by omega) (by have := hs7.2 (k + 1); omega)
      have h1 : drv f0.1 k = ((k : Int) + 1) * f0.1 (k + 1) := rfl
      rw [h1]; omega
    · rw [drv_dl6 hs7.1 k (by omega)]; omega
  refine ⟨_, s_findCommonZ (m := d0) (n := d0 - 1) hf h61 h55 h59 (by omega) (by omega) (by omega) n55 n5 (by rw [p55]; exact hs7) (by rw [p5]; exact hss) (by rw [p55, p5]; exact ok6_drv hs7), ?_⟩
  rintro I6 L6 A6 ⟨g, dg, hg, hgd, p61, n61, c6, rfl⟩
  rw [p55, p5] at hg
  have f6 : Fr (f + 2) (f + 69) I5 I6 L5 L6 := c6.fab (by omega) (fun r hr => by omega)
  have p556 : pl L6 (f + 55) = f0.1 := (pl_keep (c6.l hx3.1 h55 (by omega))).trans p55
  have n556 : RowN I6 L6 (f + 55) (d0 + 1) := n55.chm c6 hx3.1 h55 (by omega)
  obtain ⟨r, hr, er⟩ := hg.2.1
  have hbg := (div_le hgd.pf hr hs7 hf00 er).2
  refine ⟨h57.1, _, s_becomeQuotient (MA := 300) (MB := 33350) h57 h55 h61 h67 (by omega) (by omega) (by omega) (by omega) (by omega) n556.1 n61.1 (by rw [p61]; exact hgd.1) (fun k => by rw [p556]; have := hs7.2 k; omega) (fun k => by rw [p61]; have := hbg k; omega) (by omega) (by omega), ?_⟩
  rintro v7 I7 L7 A7 ⟨hv7, -, -, c7, rfl⟩
  rw [p556, p61] at hv7
  have hbr := (div_le hr hgd.pf hs7 hf00 (by rw [pmc]; exact er)).2
  obtain ⟨-, ⟨hqp, hqe, hqb⟩, htp⟩ := hv7.resolve_right (fun t => t.2 r ⟨hr, er, fun k => by have := hbr k; omega⟩)
  have n57 := rn_ln htp
  obtain ⟨r0, hr0⟩ : ∃ r0 : PF, r0.1 = pl L7 (f + 57) := ⟨plF L7 (f + 57), rfl⟩
  obtain ⟨gf, hgf⟩ : ∃ gf : PF, gf.1 = g := ⟨⟨g, hgd.pf⟩, rfl⟩
  rw [← hr0] at hqe hqp
  have hgr : (letI := pfR; gf * r0) = f0 := Subtype.ext (by show pm gf.1 r0.1 = f0.1; rw [hgf]; exact hqe)
  obtain ⟨t, ht, et⟩ := hg.2.2.1
  obtain ⟨tf, htf⟩ : ∃ tf : PF, tf.1 = t := ⟨⟨t, ht⟩, rfl⟩
  have hgdv : (letI := pfR; gf * tf) = dP f0 := Subtype.ext (by show pm gf.1 tf.1 = drv f0.1; rw [hgf, htf]; exact et)
  have hr00 : r0.1 ≠ p0 := fun z => hf00 (by rw [← hqe, z, pmc, pm_0l])
  obtain ⟨e0, he0⟩ := hqp.dg hr00
  have hlen := n57.len (by rw [← hr0]; exact he0)
  rw [hlen] at n57
  have hlead := dg_lead hgd he0 (by rw [hqe]; exact hd0)
  have hgpos : 0 < g dg := by
    obtain ⟨d', h1, h2, -⟩ := hg.2.2.2
    rw [hgd.uniq h1]; exact h2
  have hr0pos : 0 < r0.1 e0 := by
    have h1 := hlead.2
    rw [hqe] at h1
    rw [h1] at hd0p
    rcases Int.lt_or_le 0 (r0.1 e0) with w | w
    · exact w
    · have := Int.mul_nonpos_of_nonneg_of_nonpos (show 0 ≤ g dg by omega) w
      omega
  have hrp := (prim_pm (x := g) (y := r0.1) (by rw [hqe]; exact hpr)).2
  have hr0f : dv r0.1 f0.1 := ⟨g, hgd.pf, by rw [pmc]; exact hqe⟩
  have he0pos : 0 < e0 := by
    obtain ⟨s0, hs0, hsd⟩ := irr_fac d0 f0.1 d0 (Nat.le_refl _) hpr hd0 (by omega)
    obtain ⟨sf0, hsf⟩ : ∃ sf0 : PF, sf0.1 = s0 := ⟨⟨s0, hs0.pf⟩, rfl⟩
    have h1 := rad (t := sf0) (by rw [hsf]; exact hs0) hgr hgdv (by rw [hgf]; exact hgd.ne) (by rw [hsf]; exact hsd)
    rw [hsf] at h1
    obtain ⟨ds, hds0, hds⟩ := hs0.1
    have := h1.le hds he0
    omega
  have hbr0 : ∀ k, (r0.1 k).natAbs ≤ 33350 := fun k => by
    have := (div_le hqp hgd.pf hs7 hf00 (by rw [pmc]; exact hqe)).2 k
    omega
  have hlr : (r0.1 e0).natAbs ≤ 300 := by
    have h1 := lead_dvd hr0f he0 hd0
    have h2 := Nat.le_of_dvd (Int.natAbs_pos.mpr hd0.1) (Int.natAbs_dvd_natAbs.mpr h1)
    have := hs7.2 d0
    omega
  have f7 : Fr (f + 57) (f + 69) I6 I7 L6 L7 := c7.fab (fun r hr => by omega)
  refine ⟨_, s_chooseModulus (r := r0) (er := e0) hf h5 n57 hr0.symm hbr0 he0pos (by omega) hlr (good_sqf hs7 hd0 (by omega) (by rw [hgf]; exact hg) (by rw [hgf]; exact hgd) hgr), ?_⟩
  rintro I8 L8 A8 ⟨⟨p, c, hP, hp3, hp4, hc, hm8, hnd, hImg, n8, D, G, hGm, hDc, hG0⟩, f8, rfl⟩
  have hImg' := hImg
  obtain ⟨-, rF, dF, lF⟩ := hImg'
  have hG' := hGm.congr (cg.refl _ _) hDc
  have hsq : sqf p (pl L8 (f + 8)) := sqf_of hP.1 hG' hG0
  have hmd : md p (pl L8 (f + 8)) e0 := rsd_md rF dF
  refine ⟨h5.1, _, s_groupByDegrees (s := f + 1) (p := p) (n := e0) h5 hA5 hP hm8 n8 rfl rF lF he0pos (by omega) hsq, ?_⟩
  rintro I9 L9 A9 ⟨⟨gg, Q, hGrp⟩, f9, rfl⟩
  have f29 : Fr f (f + 84) I1 I9 L2 L9 := f2.trans ((f3.mono (by omega) (by omega)).trans ((f4.mono (by omega) (by omega)).trans ((f5.mono (by omega) (by omega)).trans ((f6.mono (by omega) (by omega)).trans ((f7.mono (by omega) (by omega)).trans ((f8.mono (by omega) (by omega)).trans (f9.mono (by omega) (by omega))))))))
  -- what lies above stays
  have hi69 : I9 (f + 69) = I2 (f + 69) := by
    rw [(f9 (f + 69) (by omega)).1, (f8 (f + 69) (by omega)).1, (f7 (f + 69) (by omega)).1, (f6 (f + 69) (by omega)).1, (f5 (f + 69) (by omega)).1, (f4 (f + 69) (by omega)).1, (f3 (f + 69) (by omega)).1]
  have hfl9 : FLs (f + 69) I9 L9 A9 0 (fun _ => p0) (fun _ => 0) := ⟨by rw [hi69]; exact b2, by omega, fun i hi => absurd hi (Nat.not_lt_zero _)⟩
  have n579 : RowN I9 L9 (f + 57) (e0 + 1) := (n57.fr f8 (Or.inr (by omega))).fr f9 (Or.inr (by omega))
  have p579 : pl L9 (f + 57) = r0.1 := (fr_pl f9 (Or.inr (by omega))).trans ((fr_pl f8 (Or.inr (by omega))).trans hr0.symm)
  have n559 : RowN I9 L9 (f + 55) (d0 + 1) := ((n556.fr f7 (Or.inl (by omega))).fr f8 (Or.inr (by omega))).fr f9 (Or.inr (by omega))
  have p559 : pl L9 (f + 55) = f0.1 := (fr_pl f9 (Or.inr (by omega))).trans ((fr_pl f8 (Or.inr (by omega))).trans ((fr_pl f7 (Or.inl (by omega))).trans p556))
  refine s_take_loop (F := pl L8 (f + 8)) (f0 := f0) (g0 := gf) (r0 := r0) (q' := tf) hf h5 hA5 ho hPA hP hp3 hp4 hc hGrp hmd (by omega) (img_asc hP.1 hImg) hsq n579 p579 hrp hr0pos hs7 hpr ⟨d0, n559⟩ p559 ⟨d0, hd0, hd0p⟩ hfl9 hgr hgdv (fun I' L' A' hT h3 hPA' hA' hfr => ?_)
  refine ⟨⟨f0.1, hpp, hT⟩, by rw [h3, hi69]; exact h33, hPA', hA', f29.trans (hfr.mono (by omega) (by omega))⟩
end
