/-! THE REFERENCE: findThird -/
section
variable {K : Cx} {I : TI} {L : TL} {A : TA}
theorem ihalf2 {s : Int32} (h : s.toInt.natAbs ≤ 1000000) : (s / 2).toInt = s.toInt.tdiv 2 ∧ (s - s / 2 * 2 = 0 ↔ 2 * s.toInt.tdiv 2 = s.toInt) := by
  have e2 : (2 : Int32).toInt = 2 := by decide
  have hb : (s.toInt.tdiv 2).natAbs ≤ 1000000 := by rw [Int.natAbs_tdiv]; exact Nat.le_trans (Nat.div_le_self _ _) h
  have e1 : (s / 2).toInt = s.toInt.tdiv 2 := by
    rw [Int32.toInt_div, e2]; exact Int.bmod_eq_of_le (by omega) (by omega)
  have hm : (s / 2 * 2).toInt = 2 * s.toInt.tdiv 2 := by
    rw [Int32.toInt_mul, e1, e2]; exact (Int.bmod_eq_of_le (by omega) (by omega)).trans (by omega)
  have hle : (2 * s.toInt.tdiv 2).natAbs ≤ 2000000 := by omega
  refine ⟨e1, ?_⟩
  rw [← Int32.toInt_inj, isub (by rw [hm]; omega) (by rw [hm]; omega), hm, show (0 : Int32).toInt = 0 from rfl]
  omega
set_option maxHeartbeats 4000000 in
theorem m_findThird {m c : Nat} {f0 g : PP} {q : Nat → PP} {n : Nat → Nat} (hm : isX7 K m) (hf : body f0) (hfs : FS f0 c q n g) (hp : PtS m I L c q n) (hg : rp L m 8 = g) (hno : ∀ t, dgI t 1 → ¬ dv t g) (hno2 : ∀ d, dgI g d → 4 ≤ d → ∀ t, dgI t 2 → ¬ dv t g) :
    ConV K yX7_findThird wsX7_findThird 5 124 I L A [.ref m, .int (nI 8)] (fun I' L' A' => (∃ c' q' n' g', FS f0 c' q' n' g' ∧ PtS m I' L' c' q' n' ∧ rp L' m 8 = g' ∧ (∀ t, dgI t 1 → ¬ dv t g') ∧ (∀ d, dgI g' d → 4 ≤ d → ∀ t, dgI t 2 → ¬ dv t g') ∧ (dgI g' 6 → ∀ t, dgI t 3 → ¬ dv t g')) ∧ RU m rT L L' ∧ FrF m I I' ∧ A' = A) := by
  have hgb := body_bd hf hfs.1 hfs.dvd
  have hg8 : dl g 8 := dl_mono hgb.1 (by omega)
  obtain ⟨d, hd1, hd2, hd3⟩ := dg_ex g 7 hgb.1 hfs.2.1
  have hlen : lnP g 8 = d + 1 := lnP_of hd3 (fun x hx => by rw [show x = d by omega]; exact hd2) (by omega)
  apply w_X7_findThird
  unfold wp_X7_findThird
  refine ⟨hm.1, _, m_degreeOf hm (show 8 < 30 by omega), ?_⟩
  rintro v I1 L1 A1 ⟨rfl, rfl, rfl, rfl⟩
  rw [hg, hlen, tp_s]
  have li6 : (6 : Int32).toInt = 6 := by decide
  have d6 : nI d = 6 ↔ d = 6 := by rw [← Int32.toInt_inj, tI (by omega), li6]; omega
  refine ⟨fun z => ?_, fun z => ?_⟩
  rotate_left
  · exact ⟨⟨c, q, n, g, hfs, hp, hg, hno, hno2, fun h6 => absurd (h6.uniq ⟨hd2, hd3⟩).symm (fun w => z (d6.mpr w))⟩, RU.refl _ _ _, FrF.refl _ _, rfl⟩
  have hd6 := d6.mp z
  subst hd6
  have hlead := hfs.lead hf ⟨hd2, hd3⟩
  have hlow := hfs.low hf
  have hlow0 := low_ne hfs.1 hg8 hno
  have hvals := body_val hf hfs.1 hfs.dvd
  have hnr := no_root hfs.1 hg8 hno
  have hv6 := val_6 hgb.1 (hgb.2.2 6 ⟨hd2, hd3⟩ (by omega))
  refine ⟨_, m_prepare hm hg ⟨hd2, hd3⟩ hd1 hgb.2.1 hlead hlow hlow0 hvals.1 (hnr 1) hvals.2 (hnr (-1)), ?_⟩
  rintro I2 L2 A2 ⟨⟨nl, nw, no, nm, hnl, hnw, hno200, hnm200, h17, h14, h15, h16, hll, hlw, hlo, hlm⟩, hfr2, rfl, rfl⟩
  obtain ⟨J, hJ⟩ : ∃ J : Nat → Int32, J = I2 (m + 7) := ⟨_, rfl⟩
  rw [← hJ] at hll hlw hlo hlm
  have hp2 : PtS m I2 L2 c q n := hp.keep (hfr2.2 2 (by omega) (by omega) (by omega) (by omega)) (hfr2.1 (m + 2) (by omega) (by omega)) (RU.refl m (fun _ => False) _) (fun _ _ h => h)
  -- the sums
  obtain ⟨ev, hev⟩ : ∃ ev : Nat → Nat → Int, ev = fun x y => (sgv J 200 x + sgv J 400 y).tdiv 2 := ⟨_, rfl⟩
  obtain ⟨od, hod⟩ : ∃ od : Nat → Nat → Int, od = fun x y => (sgv J 200 x - sgv J 400 y).tdiv 2 := ⟨_, rfl⟩
  obtain ⟨X, hX⟩ : ∃ X : Nat → Nat → PP → Prop, X = fun x y g' => dgI g' 6 → 2 * ev x y = sgv J 200 x + sgv J 400 y → ∀ a b, a < nl → b < 2 * nw → ¬ dv (cub (J a).toInt (ev x y - sgv J 100 b) (od x y - (J a).toInt) (sgv J 100 b)) g' := ⟨_, rfl⟩
  have hXd : ∀ {x y g1 g2}, X x y g1 → dv g2 g1 → (dgI g2 6 → dgI g1 6) → X x y g2 := fun h1 h2 h3 => by
    rw [hX] at h1 ⊢
    exact fun h6 he a b ha hb w => h1 (h3 h6) he a b ha hb (w.trans h2)
  obtain ⟨T, hT⟩ : ∃ T : Nat → Nat → PP → Prop, T = fun u v g' => dgI g' 6 → ∀ x y, (x < u ∨ (x = u ∧ y < v)) → x < 2 * no → y < 2 * nm → X x y g' := ⟨_, rfl⟩
  obtain ⟨S, hS⟩ : ∃ S : Nat → Nat → TI → TL → TA → Prop, S = fun u v I' L' A' => ∃ c' q' n' g', FS f0 c' q' n' g' ∧ PtS m I' L' c' q' n' ∧ rp L' m 8 = g' ∧ dv g' g ∧ T u v g' ∧ RU m rT L2 L' ∧ FrI m I2 I' ∧ A' = A2 := ⟨_, rfl⟩
  unfold wp_X7_findThird_18
  refine ⟨fun μ I' L' A' x => ∃ u, u + μ = 2 * no ∧ x = nI u ∧ S u 0 I' L' A', 2 * no, ⟨0, by omega, rfl, ?_⟩, ?_⟩
  · rw [hS]
    refine ⟨c, q, n, g, hfs, hp2, hg, dv.refl g, ?_, RU.refl _ _ _, FrI.refl _ _, rfl⟩
    rw [hT]; exact fun _ x y h => by omega
  rintro μ C hC I' L' A' _ ⟨u, hu, rfl, hst⟩
  have hst0 := hst
  rw [hS] at hst0
  obtain ⟨c', q', n', g', g1, g2, gr, g4, g5, g6, g7, g11⟩ := hst0
  have k15 : I' m 15 = nI no := by rw [g7.2 15 (by omega)]; exact h15
  refine ⟨hm.1, fun zz => ?_, fun zz => ?_⟩
  · rw [k15, ile, i2mul (by omega), tI (by omega)] at zz
    have hno' : ∀ t, dgI t 1 → ¬ dv t g' := fun t ht w => hno t ht (w.trans g4)
    refine ⟨⟨c', q', n', g', g1, g2, gr, hno', fun d' hd' h4 t ht w => hno2 6 ⟨hd2, hd3⟩ (by omega) t ht (w.trans g4), fun h6 t ht w => ?_⟩, g6, hfr2.f.trans g7.f, g11⟩
    obtain ⟨t1, ht1, htp, htpos, htd⟩ := prim_dv_ex ht w
    have hqE := cub_of ht1.2
    have hdg : dv t1 g := htd.trans g4
    have ht8 : dl t1 8 := dl_mono ht1.2 (by omega)
    have k1 : (t1 3).natAbs ∣ (g 6).natAbs := Int.natAbs_dvd_natAbs.mpr (lead_dvd hdg ht1 ⟨hd2, hd3⟩)
    have k2 : (t1 0).natAbs ∣ (g 0).natAbs := Int.natAbs_dvd_natAbs.mpr (low_dvd hdg)
    have k3 : (t1 3 + t1 2 + t1 1 + t1 0).natAbs ∣ (val8 g 1).natAbs := by
      have := val8_dvd 1 hdg ht1.pf ht8 hg8
      rw [hqE, val_c1] at this
      exact Int.natAbs_dvd_natAbs.mpr this
    have k4 : (-t1 3 + t1 2 - t1 1 + t1 0).natAbs ∣ (val8 g (-1)).natAbs := by
      have := val8_dvd (-1) hdg ht1.pf ht8 hg8
      rw [hqE, val_cn] at this
      exact Int.natAbs_dvd_natAbs.mpr this
    obtain ⟨a, ha, hJa⟩ := hll.2 (t1 3).natAbs (by omega) k1
    obtain ⟨b, hb, hJb⟩ := hlw.sg (by omega) (Int.natAbs_pos.mpr hlow0) k2
    obtain ⟨x, hx, hJx⟩ := hlo.sg hvals.1 (Int.natAbs_pos.mpr (hnr 1)) k3
    obtain ⟨y, hy, hJy⟩ := hlm.sg hvals.2 (Int.natAbs_pos.mpr (hnr (-1))) k4
    rw [Nat.zero_add] at hJa
    have hle1 := Nat.le_of_dvd (Int.natAbs_pos.mpr hd2) k1
    have hJa' : (J a).toInt = t1 3 := by rw [hJa, tI (by omega)]; omega
    have he : ev x y = t1 2 + t1 0 := by
      rw [hev]; show (sgv J 200 x + sgv J 400 y).tdiv 2 = _
      rw [hJx, hJy, show t1 3 + t1 2 + t1 1 + t1 0 + (-t1 3 + t1 2 - t1 1 + t1 0) = (t1 2 + t1 0) * 2 by omega]
      exact Int.mul_tdiv_cancel _ (by decide)
    have ho : od x y = t1 3 + t1 1 := by
      rw [hod]; show (sgv J 200 x - sgv J 400 y).tdiv 2 = _
      rw [hJx, hJy, show t1 3 + t1 2 + t1 1 + t1 0 - (-t1 3 + t1 2 - t1 1 + t1 0) = (t1 3 + t1 1) * 2 by omega]
      exact Int.mul_tdiv_cancel _ (by decide)
    rw [hT] at g5
    have h9 := g5 h6 x y (Or.inl (by omega)) hx hy
    rw [hX] at h9
    refine h9 h6 (by rw [he, hJx, hJy]; omega) a b ha hb ?_
    rw [hJa', hJb, he, ho, show t1 2 + t1 0 - t1 0 = t1 2 by omega, show t1 3 + t1 1 - t1 3 = t1 1 by omega, ← hqE]
    exact htd
  · rw [k15, ile, i2mul (by omega), tI (by omega)] at zz
    have hun : u < 2 * no := by omega
    clear g1 g2 gr g4 g5 g6 g7 g11 k15 c' q' n' g'
    unfold wp_X7_findThird_30
    refine ⟨fun ν I'' L'' A'' x2 x3 => ∃ k, k + ν = 2 * nm ∧ x2 = nI u ∧ x3 = nI k ∧ S u k I'' L'' A'', 2 * nm, ⟨0, by omega, rfl, rfl, hst⟩, ?_⟩
    rintro ν C' hC' I2' L2' A2' _ _ ⟨k, hk, rfl, rfl, hst2⟩
    rw [hS] at hst2
    obtain ⟨c', q', n', g', g1, g2, gr, g4, g5, g6, g7, g11⟩ := hst2
    have k16 : I2' m 16 = nI nm := by rw [g7.2 16 (by omega)]; exact h16
    have k7 : I2' (m + 7) = J := by rw [g7.1 _ (by omega) (by omega)]; exact hJ.symm
    have hg'b := body_bd hf g1.1 g1.dvd
    have hno' : ∀ t, dgI t 1 → ¬ dv t g' := fun t ht w => hno t ht (w.trans g4)
    obtain ⟨d', hd1', hd2', hd3'⟩ := dg_ex g' 7 hg'b.1 g1.2.1
    have hlen' : lnP g' 8 = d' + 1 := lnP_of hd3' (fun x hx => by rw [show x = d' by omega]; exact hd2') (by omega)
    refine ⟨hm.1, fun y v2 ev2 => ?_, fun y => ⟨_, m_degreeOf hm (show 8 < 30 by omega), ?_⟩⟩
    · rw [k16, ile, i2mul (by omega), tI (by omega)] at y
      refine hC (μ - 1) _ _ _ _ (by omega) ⟨u + 1, by omega, by rw [ev2, sI], ?_⟩
      rw [hS]
      refine ⟨c', q', n', g', g1, g2, gr, g4, ?_, g6, g7, g11⟩
      rw [hT] at g5 ⊢
      exact fun h6 x y h h1 h2 => g5 h6 x y (by omega) h1 h2
    rw [k16, ile, i2mul (by omega), tI (by omega)] at y
    have hkn : k < 2 * nm := by omega
    rintro v I4 L4 A4 ⟨rfl, rfl, rfl, rfl⟩
    rw [gr, hlen', tp_s]
    have d6' : nI d' = 6 ↔ d' = 6 := by rw [← Int32.toInt_inj, tI (by omega), li6]; omega
    have next : ∀ (I3' : TI) (L3' : TL) (A3' : TA), (∃ c'' q'' n'' g'', FS f0 c'' q'' n'' g'' ∧ PtS m I3' L3' c'' q'' n'' ∧ rp L3' m 8 = g'' ∧ dv g'' g' ∧ X u k g'') → RU m rT L2 L3' → FrI m I4 I3' → A3' = A4 → ∀ v : Int32, v = nI k + 1 → C' I3' L3' A3' (nI u) v := by
      intro I3' L3' A3' ⟨c'', q'', n'', g'', p1, p2, p3, p4, p5⟩ p6 p7 p8 v hv
      refine hC' (ν - 1) _ _ _ _ _ (by omega) ⟨k + 1, by omega, rfl, by rw [hv, sI], ?_⟩
      rw [hS]
      refine ⟨c'', q'', n'', g'', p1, p2, p3, p4.trans g4, ?_, p6, g7.trans p7, p8.trans g11⟩
      rw [hT] at g5 ⊢
      intro h6 a b h h1 h2
      by_cases w : a = u ∧ b = k
      · rw [w.1, w.2]; exact p5
      · have h66 : dgI g' 6 := by
          have := p4.le h6 ⟨hd2', hd3'⟩
          rw [show 6 = d' by omega]; exact ⟨hd2', hd3'⟩
        exact hXd (g5 h66 a b (by omega) h1 h2) p4 (fun _ => h66)
    refine ⟨fun y3 => ?_, fun y3 v ev' => ?_⟩
    rotate_left
    · refine hC (μ - 1) _ _ _ _ (by omega) ⟨u + 1, by omega, by rw [ev', sI], ?_⟩
      rw [hS]
      refine ⟨c', q', n', g', g1, g2, gr, g4, ?_, g6, g7, g11⟩
      rw [hT]
      exact fun h6 => absurd (h6.uniq ⟨hd2', hd3'⟩).symm (fun w => y3 (d6'.mpr w))
    have hd6' := d6'.mp y3
    subst hd6'
    have h200 := ihalf (c := 200) (fr := 200) (k := u) (by decide) (by omega) (by omega)
    have h400 := ihalf (c := 400) (fr := 400) (k := k) (by decide) (by omega) (by omega)
    obtain ⟨do', hdo1, hdo2, -, hdo3⟩ := hlo.val hvals.1 (Int.natAbs_pos.mpr (hnr 1)) (show u / 2 < no by omega)
    obtain ⟨dm', hdm1, hdm2, -, hdm3⟩ := hlm.val hvals.2 (Int.natAbs_pos.mpr (hnr (-1))) (show k / 2 < nm by omega)
    rw [ix_of h200, k7]
    refine ⟨⟨600, hm.2.2.2.2.2.2.2.1, inOf h200 (by omega)⟩, _, m_signed (k := u) (by omega) (by rw [hdo3]; omega), ?_⟩
    rintro so I5 L5 A5 ⟨hso, rfl, rfl, rfl⟩
    rw [ix_of h400, k7]
    refine ⟨⟨600, hm.2.2.2.2.2.2.2.1, inOf h400 (by omega)⟩, _, m_signed (k := k) (by omega) (by rw [hdm3]; omega), ?_⟩
    rintro sm I6 L6 A6 ⟨hsm, rfl, rfl, rfl⟩
    have hso' : so.toInt = sgv J 200 u := hso
    have hsm' : sm.toInt = sgv J 400 k := hsm
    have hb1 := hlo.sgb hvals.1 (Int.natAbs_pos.mpr (hnr 1)) hun
    have hb2 := hlm.sgb hvals.2 (Int.natAbs_pos.mpr (hnr (-1))) hkn
    have hs : (so + sm).toInt = sgv J 200 u + sgv J 400 k := by rw [iadd (by rw [hso', hsm']; omega) (by rw [hso', hsm']; omega), hso', hsm']
    have ht : (so - sm).toInt = sgv J 200 u - sgv J 400 k := by rw [isub (by rw [hso', hsm']; omega) (by rw [hso', hsm']; omega), hso', hsm']
    have ha := ihalf2 (s := so + sm) (by rw [hs]; omega)
    have hb := ihalf2 (s := so - sm) (by rw [ht]; omega)
    rw [hs] at ha
    rw [ht] at hb
    have hab : (sgv J 200 u + sgv J 400 k).natAbs ≤ 4200 ∧ (sgv J 200 u - sgv J 400 k).natAbs ≤ 4200 := by omega
    have eb : ∀ x : Int, x.natAbs ≤ 4200 → (x.tdiv 2).natAbs ≤ 2100 := fun x hx => by rw [Int.natAbs_tdiv]; show x.natAbs / 2 ≤ 2100; omega
    refine ⟨fun z3 => ?_, fun z3 => next _ _ _ ⟨c', q', n', g', g1, g2, gr, dv.refl g', ?_⟩ g6 (FrI.refl _ _) rfl⟩
    · refine ⟨_, m_tryThird (Vl := (g 6).natAbs) (Vw := (g 0).natAbs) hm hf g1 g2 gr hno' hnl hnw k7 (by rw [g7.2 14 (by omega)]; exact h14) (by rw [g7.2 17 (by omega)]; exact h17) hll hlw hlead hlow (Int.natAbs_pos.mpr hd2) (Int.natAbs_pos.mpr hlow0) (by rw [ha.1]; exact eb _ hab.1) (by rw [hb.1]; exact eb _ hab.2), ?_⟩
      rintro I7 L7 A7 ⟨⟨c7, q7, n7, g7', p1, p2, p3, p4, p5⟩, p6, p7, p8⟩
      rw [ha.1, hb.1] at p5
      refine next _ _ _ ⟨c7, q7, n7, g7', p1, p2, p3, p4, ?_⟩ (g6.trans p6) p7 p8
      rw [hX, hev, hod]
      exact fun h6 _ a b h1 h2 => p5 h6 a b h1 h2
    · rw [hX, hev]
      exact fun _ h => absurd (ha.2.mpr h) z3
end
