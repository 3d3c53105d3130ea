/-! FACTORING: findCommon gives the greatest common divisor -/
section
variable {K : Cx} {I : TI} {L : TL} {A : TA}
theorem GcdM.congr {p : Int} {G x y a b : PP} (h : GcdM p G x y) (hx : cg p x a) (hy : cg p y b) : GcdM p G a b := by
  obtain ⟨⟨u, v, hu, hv, hc⟩, ⟨s, hs, es⟩, ⟨t, ht, et⟩⟩ := h
  exact ⟨⟨u, v, hu, hv, hc.trans (cg.add (cg.mul_r u hx) (cg.mul_r v hy))⟩, ⟨s, hs, hx.symm.trans es⟩, ⟨t, ht, hy.symm.trans et⟩⟩
theorem bigN : ∀ i, i < 6 → ∃ p : Nat, (bigP i).toInt = p ∧ 33554467 ≤ p ∧ p < 67108864 := by
  intro i hi
  match i, hi with
  | 0, _ => exact ⟨33554467, by decide, by decide, by decide⟩
  | 1, _ => exact ⟨33554473, by decide, by decide, by decide⟩
  | 2, _ => exact ⟨33554501, by decide, by decide, by decide⟩
  | 3, _ => exact ⟨33554503, by decide, by decide, by decide⟩
  | 4, _ => exact ⟨33554509, by decide, by decide, by decide⟩
  | 5, _ => exact ⟨33554519, by decide, by decide, by decide⟩
theorem li6 : (6 : Int32).toInt = 6 := by decide
theorem not_dvd_small {p : Nat} {x : Int} (h0 : x ≠ 0) (h : x.natAbs < p) : ¬ (p : Int) ∣ x := fun ⟨c, hc⟩ => by
  have hc0 : c ≠ 0 := fun z => h0 (by rw [hc, z]; simp)
  have h1 : x.natAbs = p * c.natAbs := by rw [hc, Int.natAbs_mul, Int.natAbs_natCast]
  have h2 : p * 1 ≤ p * c.natAbs := Nat.mul_le_mul_left p (Int.natAbs_pos.mpr hc0)
  omega
theorem rsd_of {p : Int} (hp : 0 < p) {f g : PP} (h : ∀ k, f k = g k % p) : rsd p f := fun k => by
  rw [h k]; exact ⟨Int.emod_nonneg _ (by omega), Int.emod_lt_of_pos _ hp⟩
theorem cg_of {p : Int} {f g : PP} (h : ∀ k, f k = g k % p) : cg p f g := fun k => by rw [h k]; exact mod_dvd _ _
theorem RowN.len {r d e : Nat} (h : RowN I L r d) (hd : dgI (pl L r) e) : d = e + 1 := by
  rcases d with _ | x
  · exact absurd (h.1.dl e (Nat.zero_le e)) hd.1
  · have := h.dg.uniq hd; omega
/-- one of the six primes serves for a and b -/
def ok6 (a b : PP) : Prop := ∀ A B dg m n, dgI a m → dgI b n → A = n - dg → B = m - dg → inj2 a b A B → (∀ i, i < 6 → ∃ u v, dl u A ∧ dl v B ∧ ¬ (al (bigP i).toInt u ∧ al (bigP i).toInt v) ∧ zro (bigP i).toInt a b u v) → False
theorem ok6_sm {a b : PP} (ha : sm7 a) (hb : sm7 b) : ok6 a b := fun A B dg m n hda hdb e1 e2 hi h => six ha hb (by have := hdb.lt hb.1; omega) (by have := hda.lt ha.1; omega) hi big_pr h
set_option maxHeartbeats 4000000 in
theorem s_findCommonZ {f out a b m n : Nat} (hf : isX0 K f) (h : isRow K out) (ha : isRow K a) (hb : isRow K b) (ho : ¬ (out = f + 2 + 2 ∨ out = f + 2 + 4 ∨ out = f + 63 ∨ out = f + 65 ∨ out = f + 67)) (hta : ¬ (a = f + 2 + 2 ∨ a = f + 2 + 4 ∨ a = f + 63 ∨ a = f + 65 ∨ a = f + 67 ∨ a = out)) (htb : ¬ (b = f + 2 + 2 ∨ b = f + 2 + 4 ∨ b = f + 63 ∨ b = f + 65 ∨ b = f + 67 ∨ b = out)) (na : RowN I L a (m + 1)) (nb : RowN I L b (n + 1)) (sa : sm7 (pl L a)) (sb : sm7s (pl L b)) (h6 : ok6 (pl L a) (pl L b)) :
    ConV K yX0_findCommon wsX0_findCommon 4 116 I L A [.ref f, .ref out, .ref a, .ref b] (fun I' L' A' => ∃ g d, Gcd g (pl L a) (pl L b) ∧ dgI g d ∧ pl L' out = g ∧ RowN I' L' out (d + 1) ∧ ChM (fun x => x = f + 2 + 2 ∨ x = f + 2 + 4 ∨ x = f + 63 ∨ x = f + 65 ∨ x = f + 67 ∨ x = out) (f + 2) I I' L L' ∧ A' = A) := by
  obtain ⟨S, hS⟩ : ∃ S : Nat → Prop, S = fun x => x = f + 2 + 2 ∨ x = f + 2 + 4 ∨ x = f + 63 ∨ x = f + 65 ∨ x = f + 67 ∨ x = out := ⟨_, rfl⟩
  rw [← hS]
  have hSa : ¬ S a := by rw [hS]; exact hta
  have hSb : ¬ S b := by rw [hS]; exact htb
  have s1 : ∀ x, x = f + 2 + 2 → S x := fun x e => by rw [hS]; exact Or.inl e
  have s2 : ∀ x, x = f + 2 + 4 → S x := fun x e => by rw [hS]; exact Or.inr (Or.inl e)
  have s3 : ∀ x, x = f + 63 → S x := fun x e => by rw [hS]; exact Or.inr (Or.inr (Or.inl e))
  have s4 : ∀ x, x = f + 65 → S x := fun x e => by rw [hS]; exact Or.inr (Or.inr (Or.inr (Or.inl e)))
  have s5 : ∀ x, x = f + 67 → S x := fun x e => by rw [hS]; exact Or.inr (Or.inr (Or.inr (Or.inr (Or.inl e))))
  have s6 : ∀ x, x = out → S x := fun x e => by rw [hS]; exact Or.inr (Or.inr (Or.inr (Or.inr (Or.inr e))))
  obtain ⟨hf0, hx3, h55, h57, h59, h61, h63, h65, h67⟩ := hf
  have hrow : ∀ x, S x → isRow K x := fun x hx => by
    rw [hS] at hx
    rcases hx with rfl | rfl | rfl | rfl | rfl | rfl
    · exact hx3.2.1
    · exact hx3.2.2.1
    · exact h63
    · exact h65
    · exact h67
    · exact h
  have hm7 : m < 7 := (na.dg).lt sa.1
  have hn7 : n < 7 := (nb.dg).lt sb.1
  have hma := na.1.2.1
  have hmb := nb.1.2.1
  have hda := na.dg
  have hdb := nb.dg
  obtain ⟨g, hg⟩ := gcd_ex hda.pf hdb.pf (Or.inl hda.ne)
  have hg' := hg
  obtain ⟨hgp, hga, hgb, dg, hgd, hgpos, hgmax⟩ := hg
  obtain ⟨hdgm, hdgn, hinj⟩ := gcd_inj hda hdb hg' hgd
  obtain ⟨qa, hqa, eqa⟩ := hga
  obtain ⟨qb, hqb, eqb⟩ := hgb
  have hga : dv g (pl L a) := ⟨qa, hqa, eqa⟩
  have hgb : dv g (pl L b) := ⟨qb, hqb, eqb⟩
  have bg := div_le hgd.pf hqa sa hda.ne eqa
  have bqa := div_le hqa hgd.pf sa hda.ne (by rw [← eqa]; funext k; rw [pm_comm])
  have bqb := div_les hqb hgd.pf sb hdb.ne (by rw [← eqb]; funext k; rw [pm_comm])
  apply w_X0_findCommon
  unfold wp_X0_findCommon
  refine ⟨ha.1, _, s_lead ha na.1.1 hma, ?_⟩
  rintro va I1 L1 A1 ⟨hva, rfl, rfl, hA1⟩
  refine ⟨hb.1, _, s_lead hb nb.1.1 hmb, ?_⟩
  rintro vb I2 L2 A2 ⟨hvb, rfl, rfl, hA2⟩
  rw [if_neg (by omega), Nat.add_sub_cancel] at hva hvb
  have hva' : va.toInt = pl L2 a m := by rw [hva, pl_lt (by omega)]
  have hvb' : vb.toInt = pl L2 b n := by rw [hvb, pl_lt (by omega)]
  have ba := sa.2 m
  have bb := sb.2 n
  refine ⟨_, s_gcd (by rw [hva']; omega) (by rw [hvb']; omega), ?_⟩
  rintro lg I3 L3 A3 ⟨hlg, rfl, rfl, hA3⟩
  rw [hva', hvb'] at hlg
  have hla0 : pl L3 a m ≠ 0 := hda.1
  have hlb0 : pl L3 b n ≠ 0 := hdb.1
  obtain ⟨lN, hlN⟩ : ∃ l : Nat, l = Nat.gcd (pl L3 a m).natAbs (pl L3 b n).natAbs := ⟨_, rfl⟩
  rw [← hlN] at hlg
  have hl0 : 0 < lN := by rw [hlN]; exact Nat.gcd_pos_of_pos_left _ (Int.natAbs_pos.mpr hla0)
  have hl300 : lN ≤ 300 := by
    have := Nat.le_of_dvd (Int.natAbs_pos.mpr hla0) (Nat.gcd_dvd_left (pl L3 a m).natAbs (pl L3 b n).natAbs)
    rw [← hlN] at this; omega
  have hgl : g dg ∣ (lN : Int) := by
    rw [← Int.natAbs_dvd_natAbs, Int.natAbs_natCast, hlN]
    exact Nat.dvd_gcd (Int.natAbs_dvd_natAbs.mpr (lead_dvd hga hgd hda)) (Int.natAbs_dvd_natAbs.mpr (lead_dvd hgb hgd hdb))
  obtain ⟨c, hc⟩ := hgl
  have hc0 : 0 < c := by
    rcases Int.lt_or_le 0 c with q | q
    · exact q
    · have := Int.mul_nonpos_of_nonneg_of_nonpos (show (0 : Int) ≤ g dg by omega) q
      omega
  have hcl : c ≤ lN := by
    rw [hc]
    have := Int.mul_le_mul_of_nonneg_right (show (1 : Int) ≤ g dg by omega) (show (0 : Int) ≤ c by omega)
    omega
  unfold wp_X0_findCommon_26
  refine ⟨fun μ I' L' A' x4 x7 x8 => ∃ i : Nat, i + μ = 6 ∧ x7 = 6 ∧ x8 = nI i ∧ lg = x4 ∧ ChM S (f + 2) I3 I' L3 L' ∧ (∀ j, j < i → ∃ G e, GcdM (bigP j).toInt G (pl L3 a) (pl L3 b) ∧ md (bigP j).toInt G e ∧ dg < e) ∧ A' = A, 6, ⟨0, rfl, rfl, rfl, rfl, ChM.refl _ _ _ _, fun j hj => absurd hj (Nat.not_lt_zero _), by rw [hA3, hA2, hA1]⟩, ?_⟩
  rintro μ C hC I' L' A' _ _ _ ⟨i, hi, rfl, rfl, rfl, hch, hbad, hA⟩
  refine ⟨fun q => ?_, fun q => ?_⟩
  · -- never: one of the six serves
    exfalso
    rw [ile, li6, tI (by omega)] at q
    have hi6 : i = 6 := by omega
    subst hi6
    refine h6 _ _ dg m n hda hdb rfl rfl hinj (fun j hj => ?_)
    obtain ⟨G, e, hG, hGe, hlt⟩ := hbad j hj
    obtain ⟨p, hp, hp1, hp2⟩ := bigN j hj
    have hpr := big_pr j hj
    rw [hp] at hG hGe hpr ⊢
    exact gm_bad hpr hG hGe hda hdb (not_dvd_small hla0 (by omega)) (not_dvd_small hlb0 (by omega)) hlt
  · rw [ile, li6, tI (by omega)] at q
    have hi6 : i < 6 := by omega
    obtain ⟨p, hp, hp1, hp2⟩ := bigN i hi6
    have hpr := big_pr i hi6
    rw [hp] at hpr
    have hPm : Pm p := ⟨hpr, hp2⟩
    refine ⟨inOf (tI (by omega)) hi6, fun v8 e8 => ⟨hf0, hx3.1, _, s_useModulus hx3.1, ?_⟩⟩
    rw [ixn (by omega)] at e8
    rintro I4 L4 A4 ⟨rfl, hL4, hA4⟩
    have h8 : v8.toInt = p := by rw [e8]; exact hp
    rw [if_neg (by rw [jlt, h8, show (2 : Int64).toInt = 2 from by decide]; omega)] at hL4
    have hch4 : ChM S (f + 2) I3 I4 L3 L4 := ⟨hch.1, fun x hx1 hx2 => by rw [hL4, u2_off _ _ hx1]; exact hch.2 x hx1 hx2⟩
    have hm4 : mdl L4 (f + 2) = p := by unfold mdl; rw [hL4, u2_self]; exact h8
    have hpa4 : pl L4 a = pl L3 a := pl_keep (hch4.l hx3.1 ha hSa)
    have hpb4 : pl L4 b = pl L3 b := pl_keep (hch4.l hx3.1 hb hSb)
    have hne0 : ¬ L4 (f + 2) 0 = 0 := fun z => by rw [hL4, u2_self, j0, h8] at z; omega
    refine ⟨_, s_reduce hx3.1 h63 ha hne0, ?_⟩
    rintro I5 L5 A5 ⟨hr5, hc5, hA5⟩
    have hch5 : ChM S (f + 2) I3 I5 L3 L5 := hch4.trans ((hc5.mono s3).m _)
    have hm5 : L5 (f + 2) = L4 (f + 2) := mdl_ch hx3.1 (fun r hr => by rw [hr]; exact h63) hc5
    have hv5 := reduce_i (o := f + 2) (by rw [hm4]; omega) (fun k => by rw [hpa4]; have := sa.2 k; omega) hr5
    rw [hm4, hpa4] at hv5
    have hpb5 : pl L5 b = pl L3 b := pl_keep (hch5.l hx3.1 hb hSb)
    refine ⟨_, s_reduce hx3.1 h65 hb (by rw [hm5]; exact hne0), ?_⟩
    rintro I6 L6 A6 ⟨hr6, hc6, hA6⟩
    have hch6 : ChM S (f + 2) I3 I6 L3 L6 := hch5.trans ((hc6.mono s4).m _)
    have hm6 : L6 (f + 2) = L4 (f + 2) := (mdl_ch hx3.1 (fun r hr => by rw [hr]; exact h65) hc6).trans hm5
    have hv6 := reduce_i (o := f + 2) (by show 0 < (L5 (f + 2) 0).toInt; rw [hm5]; show 0 < mdl L4 (f + 2); rw [hm4]; omega) (fun k => by rw [hpb5]; have := sb.2 k; omega) hr6
    rw [show mdl L5 (f + 2) = p from by unfold mdl; rw [hm5]; exact hm4, hpb5] at hv6
    have hcand6 : pl L6 (f + 63) = pl L5 (f + 63) := pl_keep (hc6.l (by omega))
    have ncand : RowN I6 L6 (f + 63) _ := (hr5.rn).ch hc6 (by omega)
    have nquot := hr6.rn
    generalize ln (fun k => fmJ (L4 (a + 1) k) (L4 (f + 2) 0)) 13 = d1 at ncand
    generalize ln (fun k => fmJ (L5 (b + 1) k) (L5 (f + 2) 0)) 13 = d2 at nquot
    have hmd6 : mdl L6 (f + 2) = p := by unfold mdl; rw [hm6]; exact hm4
    have hp0 : (0 : Int) < p := by omega
    refine ⟨_, s_findCommon hx3 h67 h63 h65 (by omega) (by omega) (by omega) (by omega) hmd6 hPm (by rw [hcand6]; exact rsd_of hp0 hv5) (rsd_of hp0 hv6) ncand nquot, ?_⟩
    rintro I7 L7 A7 ⟨hG, hGr, ⟨d, hGn, hG1, hGz⟩, hc7, hA7⟩
    have hch7 : ChM S (f + 2) I3 I7 L3 L7 := hch6.trans ((hc7.mono (fun x hx => by
      rcases hx with q | q | q
      · exact s1 x q
      · exact s2 x q
      · exact s5 x q)).m _)
    have hm7' : L7 (f + 2) = L4 (f + 2) := (mdl_ch hx3.1 (fun r hr => by
      rcases hr with q | q | q
      · rw [q]; exact hx3.2.1
      · rw [q]; exact hx3.2.2.1
      · rw [q]; exact h67) hc7).trans hm6
    rw [hcand6] at hG
    have hG : GcdM p (pl L7 (f + 67)) (pl L3 a) (pl L3 b) := hG.congr (cg_of hv5) (cg_of hv6)
    have hd1 : d1 ≠ 0 := fun z => by
      have e1 := ncand.1.dl m (by omega)
      rw [hcand6, hv5 m] at e1
      exact not_dvd_small hla0 (show (pl L3 a m).natAbs < p by omega) (Int.dvd_of_emod_eq_zero e1)
    have hd0 : d ≠ 0 := fun z => hd1 (hGz z).1
    obtain ⟨e, rfl⟩ : ∃ e, d = e + 1 := ⟨d - 1, by omega⟩
    have hGe1 := hG1 e rfl
    have hGmd : md p (pl L7 (f + 67)) e := ⟨by rw [hGe1]; exact not_dvd_small (by decide) (by show 1 < p; omega), fun k hk => by rw [hGn.1.dl k (by omega)]; exact Int.dvd_zero _⟩
    obtain ⟨-, -, -, hde, -⟩ := gm_ge hpr hG hGmd hga hgb hgd (not_dvd_small hgd.1 (by have := bg.2 dg; omega))
    have he13 := hGn.1.2.1
    refine ⟨h63.1, _, s_becomeSum h63 h67 h67, ?_⟩
    rintro I8 L8 A8 ⟨hr8, hc8, hA8⟩
    have hch8 : ChM S (f + 2) I3 I8 L3 L8 := hch7.trans ((hc8.mono s3).m _)
    have hm8 : L8 (f + 2) = L4 (f + 2) := (mdl_ch hx3.1 (fun r hr => by rw [hr]; exact h63) hc8).trans hm7'
    have hv8 : ∀ k, pl L8 (f + 63) k = lN * pl L7 (f + 67) k := fun k => by
      by_cases w : k < 13
      · have b1 := hGr k
        rw [pl_lt w] at b1
        rw [pl_lt w, hr8.1 k w]
        show (lg * L7 (f + 67 + 1) k + 0 * L7 (f + 67 + 1) k).toInt = _
        rw [Int64.zero_mul, Int64.add_zero, jmulB (m := 300) (n := 67108864) (by rw [hlg]; omega) (by omega) (by decide), hlg, pl_lt w]
      · rw [pl, if_neg w, pl, if_neg w]; simp
    have hmd8 : mdl L8 (f + 2) = p := by unfold mdl; rw [hm8]; exact hm4
    have hb8 : ∀ k, -9223372036854775808 < pl L8 (f + 63) k := fun k => by
      rw [hv8 k]
      have := hGr k
      have := Int.mul_nonneg (show (0 : Int) ≤ lN by omega) this.1
      omega
    refine ⟨_, s_lift hx3.1 h h63 (by rw [hmd8]; omega) (by rw [hmd8]; omega) hb8, ?_⟩
    rintro I9 L9 A9 ⟨hv9, ⟨d9, hn9⟩, hc9, hA9⟩
    have hch9 : ChM S (f + 2) I3 I9 L3 L9 := hch8.trans ((hc9.mono s6).m _)
    rw [hmd8] at hv9
    have hFe : pl L9 out e = lN := by
      rw [hv9 e, hv8 e, hGe1]
      exact near_small hp0 ⟨0, by omega⟩ (by omega) (by omega)
    have hF : dgI (pl L9 out) e := ⟨by rw [hFe]; omega, fun k hk => by
      rw [hv9 k, hv8 k, hGn.1.dl k hk]
      exact near_small hp0 ⟨0, by omega⟩ (by omega) (by omega)⟩
    have hd9 := hn9.len hF
    subst hd9
    have hnb : ∀ k, (pl L9 out k).natAbs < 562949953421312 := fun k => by
      rw [hv9 k]
      unfold near
      have b1 := Int.emod_nonneg (pl L8 (f + 63) k) (show (p : Int) ≠ 0 by omega)
      have b2 := Int.emod_lt_of_pos (pl L8 (f + 63) k) hp0
      split <;> omega
    refine ⟨h.1, _, s_makePrimitive h hn9.1 hnb, ?_⟩
    rintro I10 L10 A10 ⟨hv10, hst10, hc10, hA10⟩
    have hch10 : ChM S (f + 2) I3 I10 L3 L10 := hch9.trans ((hc10.mono s6).m _)
    have hH : dgI (pl L10 out) e := ⟨fun z => hF.1 (by rw [hv10 e, z]; simp), hst10.dl⟩
    have hn10 : RowN I10 L10 out (e + 1) := ⟨hst10, fun e' he' => by rw [show e' = e by omega]; exact hH.1⟩
    -- with the right degree it is g
    have hgood : e = dg → pl L10 out = g := by
      intro he
      subst he
      have h1 := gm_eq hpr hG hGmd hGe1 hga hgb hgd (not_dvd_small hgd.1 (by have := bg.2 e; omega))
      refine prim_of (f := pl L9 out) hc0 hgp hgd hgpos (funext fun k => ?_) hv10
      rw [hv9 k, hv8 k]
      have b1 := bg.2 k
      have b2 : (c * g k).natAbs ≤ 300 * 33350 := mul_ab (by omega) (by omega)
      refine near_small hp0 ?_ (by show _ < 2 * (c * g k); omega) (by show 2 * (c * g k) < _; omega)
      have h2 : (p : Int) ∣ c * (g e * pl L7 (f + 67) k - g k) := Int.dvd_mul_of_dvd_right (h1 k)
      show (p : Int) ∣ lN * pl L7 (f + 67) k - c * g k
      rw [hc, show g e * c * pl L7 (f + 67) k - c * g k = c * (g e * pl L7 (f + 67) k - g k) by rw [Int.mul_sub, Int.mul_comm (g e) c, Int.mul_assoc]]
      exact h2
    have hpa10 : pl L10 a = pl L3 a := pl_keep (hch10.l hx3.1 ha hSa)
    have hna10 : RowN I10 L10 a (m + 1) := na.chm hch10 hx3.1 ha hSa
    have hAA : A10 = A := by rw [hA10, hA9, hA8, hA7, hA6, hA5, hA4, hA]
    -- a rejection says that the degree was too high
    have hrej : ∀ (I'' : TI) (L'' : TL) (A'' : TA), ChM S (f + 2) I3 I'' L3 L'' → A'' = A → (e = dg → False) → ∀ v : Int32, v = nI i + 1 → C I'' L'' A'' lg 6 v := by
      intro I'' L'' A'' hch'' hA'' hno v hv
      refine hC (μ - 1) _ _ _ _ _ _ (by omega) ⟨i + 1, by omega, rfl, by rw [hv, sI], rfl, hch'', fun j hj => ?_, hA''⟩
      by_cases w : j = i
      · subst w
        exact ⟨_, e, by rw [hp]; exact hG, by rw [hp]; exact hGmd, Nat.lt_of_le_of_ne hde (fun t => hno t.symm)⟩
      · exact hbad j (by omega)
    have nout65 : out ≠ f + 65 := fun z => ho (by omega)
    have nout67 : out ≠ f + 67 := fun z => ho (by omega)
    have na65 : a ≠ f + 65 := fun z => hta (by omega)
    have na67 : a ≠ f + 67 := fun z => hta (by omega)
    have nb65 : b ≠ f + 65 := fun z => htb (by omega)
    have nb67 : b ≠ f + 67 := fun z => htb (by omega)
    refine ⟨_, s_divides (MA := 300) ⟨hf0, hx3, h55, h57, h59, h61, h63, h65, h67⟩ h ha nout65 nout67 na65 na67 hn10 hna10.1 (fun k => by rw [hpa10]; have := sa.2 k; omega) (by omega), ?_⟩
    rintro w1 I11 L11 A11 ⟨hw1, hc11, hA11⟩
    have hch11 : ChM S (f + 2) I3 I11 L3 L11 := hch10.trans ((hc11.mono (fun x hx => by
      rcases hx with q | q
      · exact s4 x q
      · exact s5 x q)).m _)
    rw [hpa10] at hw1
    refine ⟨fun z => ?_, fun z => ?_⟩
    · rcases hw1 with ⟨h1, -⟩ | ⟨-, h2⟩
      · rw [h1] at z; exact absurd z (by decide)
      · refine hrej _ _ _ hch11 (by rw [hA11, hAA]) (fun he => h2 ?_)
        rw [hgood he]
        exact ⟨fun k => by have := bg.2 k; omega, qa, hqa, eqa, fun k => by have := bqa.2 k; omega⟩
    · rcases hw1 with ⟨-, h1⟩ | ⟨h2, -⟩
      · have hdva : dv (pl L10 out) (pl L3 a) := ⟨_, h1.1, h1.2.1⟩
        have hpo11 : pl L11 out = pl L10 out := pl_keep (hc11.l (fun t => by rcases t with t | t <;> omega))
        have hno11 : RowN I11 L11 out (e + 1) := hn10.ch hc11 (fun t => by rcases t with t | t <;> omega)
        have hpb11 : pl L11 b = pl L3 b := pl_keep (hch11.l hx3.1 hb hSb)
        have hnb11 : RowN I11 L11 b (n + 1) := nb.chm hch11 hx3.1 hb hSb
        refine ⟨_, s_divides (MA := 1800) ⟨hf0, hx3, h55, h57, h59, h61, h63, h65, h67⟩ h hb nout65 nout67 nb65 nb67 hno11 hnb11.1 (fun k => by rw [hpb11]; have := sb.2 k; omega) (by omega), ?_⟩
        rintro w2 I12 L12 A12 ⟨hw2, hc12, hA12⟩
        have hch12 : ChM S (f + 2) I3 I12 L3 L12 := hch11.trans ((hc12.mono (fun x hx => by
          rcases hx with q | q
          · exact s4 x q
          · exact s5 x q)).m _)
        have hAf : A12 = A := by rw [hA12, hA11, hAA]
        rw [hpb11, hpo11] at hw2
        refine ⟨fun z2 => ?_, fun z2 => ?_⟩
        · rcases hw2 with ⟨h1, -⟩ | ⟨-, h2⟩
          · rw [h1] at z2; exact absurd z2 (by decide)
          · refine hrej _ _ _ hch12 hAf (fun he => h2 ?_)
            rw [hgood he]
            exact ⟨fun k => by have := bg.2 k; omega, qb, hqb, eqb, fun k => by have := bqb.2 k; omega⟩
        · rcases hw2 with ⟨-, h3⟩ | ⟨h2, -⟩
          · have hdvb : dv (pl L10 out) (pl L3 b) := ⟨_, h3.1, h3.2.1⟩
            have hle := hgmax _ e hdva hdvb hH
            have hee : e = dg := by omega
            refine ⟨g, dg, hg', hgd, ?_, ?_, hch12, hAf⟩
            · rw [pl_keep (hc12.l (fun t => by rcases t with t | t <;> omega)), hpo11]; exact hgood hee
            · rw [← hee]; exact hno11.ch hc12 (fun t => by rcases t with t | t <;> omega)
          · exact absurd h2 z2
      · exact absurd h2 z
end
