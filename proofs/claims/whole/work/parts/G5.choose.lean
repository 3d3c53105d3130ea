/-! FACTORING: chooseModulus -/
section
variable {K : Cx} {I : TI} {L : TL} {A : TA}
theorem bigN2 : ∀ i, i < 6 → ∃ p c : Nat, (bigP i).toInt = p ∧ 33554467 ≤ p ∧ p ≤ 33555000 ∧ 2 * c + 1 = p := by
  intro i hi
  match i, hi with
  | 0, _ => exact ⟨33554467, 16777233, by decide, by decide, by decide, by decide⟩
  | 1, _ => exact ⟨33554473, 16777236, by decide, by decide, by decide, by decide⟩
  | 2, _ => exact ⟨33554501, 16777250, by decide, by decide, by decide, by decide⟩
  | 3, _ => exact ⟨33554503, 16777251, by decide, by decide, by decide, by decide⟩
  | 4, _ => exact ⟨33554509, 16777254, by decide, by decide, by decide, by decide⟩
  | 5, _ => exact ⟨33554519, 16777259, by decide, by decide, by decide, by decide⟩
theorem drv_dl6 {a : PP} (ha : dl a 7) : dl (drv a) 6 := fun k hk => by
  show _ * a (k + 1) = 0
  rw [ha (k + 1) (by omega), Int.mul_zero]
theorem sa_drv {a : PP} (ha : sm7 a) : sa (drv a) 7 ≤ 6300 := by
  have b1 := ha.2 1; have b2 := ha.2 2; have b3 := ha.2 3; have b4 := ha.2 4; have b5 := ha.2 5; have b6 := ha.2 6
  have b7 : a 7 = 0 := ha.1 7 (by omega)
  simp only [sa, drv, pt, Nat.reduceAdd]
  rw [b7]
  simp only [Int.natAbs_mul]
  have n1 : (a 1).natAbs ≤ 300 := by omega
  have n2 : (a 2).natAbs ≤ 300 := by omega
  have n3 : (a 3).natAbs ≤ 300 := by omega
  have n4 : (a 4).natAbs ≤ 300 := by omega
  have n5 : (a 5).natAbs ≤ 300 := by omega
  have n6 : (a 6).natAbs ≤ 300 := by omega
  simp
  omega
theorem ok6_drv {a : PP} (ha : sm7 a) : ok6 a (drv a) := fun A B dg m n hda hdb e1 e2 hi h => by
  have hm := hda.lt ha.1
  have hn := hdb.lt (drv_dl6 ha.1)
  have hsa : sa a 7 ≤ 2100 := Nat.le_trans (sa_le (B := 300) 7 a (fun k => by have := ha.2 k; omega)) (by omega)
  have hsb := sa_drv ha
  refine six0 (A := A) (B := B) (fun U V hU hV hZ hF => sieveG (S := 4200) (N := 11) (by decide) ha.1 (dl_mono (drv_dl6 ha.1) (by omega)) (by omega) (fun U V hU hV k hk => ?_) hU hV hi hZ hF) big_pr h
  have h1 := pm_dl 4 U a 6 (dl_mono hU (by omega)) ha.1 k (by omega)
  have h2 := pm_dl 5 V (drv a) 5 (dl_mono hV (by omega)) (drv_dl6 ha.1) k (by omega)
  simp only [pa]
  rw [h1, h2]; rfl
theorem good_prime {f g : PP} {m dg : Nat} (hf : sm7 f) (hm : dgI f m) (hm0 : 0 < m) (hg : Gcd g f (drv f)) (hgd : dgI g dg) : ∃ i, i < 6 ∧ ∃ G, Pf G ∧ GcdM (bigP i).toInt G f (drv f) ∧ md (bigP i).toInt G dg := Classical.byContradiction fun hno => by
  have hdd : dgI (drv f) (m - 1) := by
    refine ⟨?_, fun k hk => ?_⟩
    · show (((m - 1 : Nat) : Int) + 1) * f (m - 1 + 1) ≠ 0
      rw [show m - 1 + 1 = m by omega]
      exact Int.mul_ne_zero (by omega) hm.1
    · show _ * f (k + 1) = 0
      rw [hm.2 (k + 1) (by omega), Int.mul_zero]
  obtain ⟨-, -, hinj⟩ := gcd_inj hm hdd hg hgd
  have hm7 := hm.lt hf.1
  refine ok6_drv hf _ _ dg m (m - 1) hm hdd rfl rfl hinj (fun i hi => ?_)
  obtain ⟨p, c, hp, hp1, hp2, hp3⟩ := bigN2 i hi
  have hpr := big_pr i hi
  rw [hp] at hpr
  obtain ⟨G, hG, hGm⟩ := gm_ex hpr 7 f (drv f) hm.pf (dl_mono (drv_dl6 hf.1) (by omega))
  have hfl : ¬ (p : Int) ∣ f m := not_dvd_small hm.1 (by have := hf.2 m; omega)
  have hdl : ¬ (p : Int) ∣ drv f (m - 1) := by
    refine not_dvd_small hdd.1 ?_
    show ((((m - 1 : Nat) : Int) + 1) * f (m - 1 + 1)).natAbs < p
    have := mul_ab (a := ((m - 1 : Nat) : Int) + 1) (b := f (m - 1 + 1)) (m := 7) (n := 300) (by omega) (by have := hf.2 (m - 1 + 1); omega)
    omega
  obtain ⟨e, he⟩ := md_of hG (fun z => (hm.mdp hfl).nal (by
    obtain ⟨s, hs, es⟩ := hGm.dx
    have := es.trans (cg.mul_r s (al_cg z))
    rw [pmc s p0, pm_0l] at this
    exact this.alof (fun k => Int.dvd_zero _)))
  have hgl : ¬ (p : Int) ∣ g dg := fun w => hfl (Int.dvd_trans w (lead_dvd hg.2.1 hgd hm))
  obtain ⟨-, -, -, hle, -⟩ := gm_ge hpr hGm he hg.2.1 hg.2.2.1 hgd hgl
  rw [hp]
  rcases Nat.lt_or_ge dg e with w | w
  · exact gm_bad hpr hGm he hm hdd hfl hdl w
  · exact absurd ⟨i, hi, G, hG, by rw [hp]; exact hGm, by rw [hp, show dg = e by omega]; exact he⟩ hno
/-- with such a prime the quotient has no squares -/
theorem good_sqf {f g r : PF} {m dg : Nat} (hf : sm7 f.1) (hm : dgI f.1 m) (hm0 : 0 < m) (hg : Gcd g.1 f.1 (drv f.1)) (hgd : dgI g.1 dg) (e : (letI := pfR; g * r) = f) : ∃ i, i < 6 ∧ sqf (bigP i).toInt r.1 := by
  obtain ⟨i, hi, G, hG, hGm, hmd⟩ := good_prime hf hm hm0 hg hgd
  refine ⟨i, hi, ?_⟩
  obtain ⟨p, c, hp, hp1, hp2, hp3⟩ := bigN2 i hi
  have hpr := big_pr i hi
  rw [hp] at hpr hGm hmd ⊢
  have hfl : ¬ (p : Int) ∣ f.1 m := not_dvd_small hm.1 (by have := hf.2 m; omega)
  have hgl : ¬ (p : Int) ∣ g.1 dg := fun w => hfl (Int.dvd_trans w (lead_dvd hg.2.1 hgd hm))
  refine sqf_rest (G := ⟨G, hG⟩) hpr e hGm hmd (hgd.mdp hgl) ?_
  obtain ⟨t, ht, et⟩ := hg.2.2.1
  exact ⟨t, ht, by rw [pmc, et]; exact cg.refl _ _⟩
theorem sqf_no {p n e : Nat} (hp : Pr (p : Int)) {r F D G : PP} (hr : Pf r) (hn : md p r n) (hnp : n < p) (hs : sqf p r) (h1 : asc p r F) (h2 : asc p (drv r) D) (hG : GcdM p G F D) (he : md p G e) : e = 0 := by
  obtain ⟨k, hk⟩ := drv_pf hr
  obtain ⟨G', hG', hgm⟩ := gm_ex hp k r (drv r) hr hk
  have ha : asc p G' G := hgm.asc hG h1 h2
  obtain ⟨e', he'⟩ := md_of hG' (fun z => hn.nal (by
    obtain ⟨s, hs, es⟩ := hgm.dx
    have := es.trans (cg.mul_r s (al_cg z))
    rw [pmc s p0, pm_0l] at this
    exact this.alof (fun k => Int.dvd_zero _)))
  have := ha.deg hp he' he
  rw [← this]
  exact sqf_gcd hp hr hn hnp hs hG' hgm (cg.refl _ _) he'
/-- what chooseModulus leaves -/
def ChO (f : Nat) (r : PP) (er : Nat) (I : TI) (L : TL) : Prop := ∃ p c, Pm p ∧ 33554467 ≤ p ∧ p ≤ 33555000 ∧ 2 * c + 1 = p ∧ mdl L (f + 2) = p ∧ ¬ (p : Int) ∣ r er ∧ Img p r (pl L (f + 8)) er ∧ RowN I L (f + 8) (er + 1) ∧ ∃ D G, GcdM p G (pl L (f + 8)) D ∧ cg p D (drv (pl L (f + 8))) ∧ md p G 0
set_option maxHeartbeats 1000000 in
theorem s_chooseModulus {f er : Nat} {r : PF} (hf : isX0 K f) (h5 : isX5 K (f + 1)) (nr : RowN I L (f + 57) (er + 1)) (pr : pl L (f + 57) = r.1) (hbd : ∀ k, (r.1 k).natAbs ≤ 33350) (her : 0 < er) (her6 : er ≤ 6) (hl : (r.1 er).natAbs ≤ 300) (hgood : ∃ i, i < 6 ∧ sqf (bigP i).toInt r.1) : ConV K yX0_chooseModulus wsX0_chooseModulus 5 115 I L A [.ref f] (fun I' L' A' => ChO f r.1 er I' L' ∧ Fr (f + 2) (f + 18) I I' L L' ∧ A' = A) := by
  obtain ⟨hf0, hx3, h55, h57, -⟩ := hf
  have hre : dgI r.1 er := by rw [← pr]; exact nr.dg
  apply w_X0_chooseModulus
  unfold wp_X0_chooseModulus wp_X0_chooseModulus_9
  refine ⟨fun μ I' L' A' x2 x3 => ∃ i, i + μ = 6 ∧ x2 = 6 ∧ x3 = nI i ∧ (∀ j, j < i → ¬ sqf (bigP j).toInt r.1) ∧ Fr (f + 2) (f + 18) I I' L L' ∧ A' = A, 6, ⟨0, rfl, rfl, rfl, fun j hj => absurd hj (Nat.not_lt_zero _), Fr.refl _ _ _ _, rfl⟩, ?_⟩
  rintro μ C hC I1 L1 A1 _ _ ⟨i, hi, rfl, rfl, hbad, f1, rfl⟩
  refine ⟨fun z => ?_, fun z => ?_⟩
  · exfalso
    rw [ile, li6, tI (by omega)] at z
    obtain ⟨j, hj, hs⟩ := hgood
    exact hbad j (by omega) hs
  rw [ile, li6, tI (by omega)] at z
  have hi6 : i < 6 := by omega
  obtain ⟨p, c, hp, hp1, hp2, hp3⟩ := bigN2 i hi6
  have hpr := big_pr i hi6
  rw [hp] at hpr
  have hP : Pm p := ⟨hpr, by omega⟩
  refine ⟨inOf (tI (by omega)) hi6, fun v2 e2 => ⟨hf0, h5.1, ?_⟩⟩
  rw [ixn (by omega)] at e2
  have p1 : pl L1 (f + 57) = r.1 := (fr_pl f1 (Or.inr (by omega))).trans pr
  have n1 := nr.fr f1 (Or.inr (by omega))
  refine ⟨_, s_load (p := p) (n := er) h5 h57 (by omega) n1 (fun k => by rw [p1]; have := hbd k; omega) hP (by rw [e2]; exact hp), ?_⟩
  rintro v I2 L2 A2 ⟨hv, m2, f2, rfl⟩
  rw [p1] at hv
  have f12 := f1.trans f2
  refine ⟨fun z2 v11 e11 => ?_, fun z2 => ?_⟩
  · obtain ⟨-, hb⟩ := hv.resolve_left (fun t => by rw [t.1] at z2; exact absurd z2 (by decide))
    refine hC (μ - 1) _ _ _ _ _ (by omega) ⟨i + 1, by omega, rfl, by rw [e11, sI], fun j hj => ?_, f12, rfl⟩
    by_cases w : j = i
    · subst w
      rw [hp]
      intro hs
      rcases hb with hb | hb | ⟨hnd, F, D, G, e, b1, b2, b3, b4, b5⟩
      · omega
      · exact not_dvd_small hre.1 (by omega) hb
      · have := sqf_no hpr hre.pf (hre.mdp hnd) (by omega) hs b1 b2 b3 b4
        omega
    · exact hbad j (by omega)
  · obtain ⟨-, h2, h3, h4, h6, h7⟩ := hv.resolve_right (fun t => z2 t.1)
    exact ⟨⟨p, c, hP, hp1, hp2, hp3, m2, h3, h4, h6, h7⟩, f12, rfl⟩
end
