/-! THE REFERENCE: tryThird -/
section
variable {K : Cx} {I : TI} {L : TL} {A : TA}
def cub (a b c d : Int) : PP := fun k => if k = 0 then d else if k = 1 then c else if k = 2 then b else if k = 3 then a else 0
theorem cub_dg {a b c d : Int} (h : a ≠ 0) : dgI (cub a b c d) 3 := ⟨h, fun k hk => by unfold cub; rw [if_neg (by omega), if_neg (by omega), if_neg (by omega), if_neg (by omega)]⟩
theorem cub_of {t : PP} (h : dl t 4) : t = cub (t 3) (t 2) (t 1) (t 0) := funext fun k => by
  unfold cub
  by_cases a : k = 0
  · rw [if_pos a, a]
  · by_cases b : k = 1
    · rw [if_neg a, if_pos b, b]
    · by_cases c : k = 2
      · rw [if_neg a, if_neg b, if_pos c, c]
      · by_cases d : k = 3
        · rw [if_neg a, if_neg b, if_neg c, if_pos d, d]
        · rw [if_neg a, if_neg b, if_neg c, if_neg d]; exact h k (by omega)
theorem val_c1 (a b c d : Int) : val8 (cub a b c d) 1 = a + b + c + d := by rw [val_1]; simp only [cub]; simp; omega
theorem val_cn (a b c d : Int) : val8 (cub a b c d) (-1) = -a + b - c + d := by rw [val_n1]; simp only [cub]; simp; omega
/-- a division by one of degree 3 -/
theorem dOK_cub {f g t : PP} (hf : body f) (hgf : Pf g) (hg0 : g ≠ p0) (hg : dv g f) (hb : ∀ k, k < 3 → (t k).natAbs ≤ 2400) : dOK t 3 g := by
  obtain ⟨b1, b2, b3⟩ := body_bd hf hgf hg
  obtain ⟨d, hd1, hd2, hd3⟩ := dg_ex g 7 b1 hg0
  have hl : lnP g 8 = d + 1 := lnP_of hd3 (fun x hx => by rw [show x = d by omega]; exact hd2) (by omega)
  have hm : ∀ s, s ≤ 4 → 33350 * (1 + 2400) ^ s < 9223372036854775808 := fun s hs => Nat.lt_of_le_of_lt (Nat.mul_le_mul_left _ (Nat.pow_le_pow_right (by omega) hs)) (by decide)
  exact ⟨33350, 2400, b2, hb, hm _ (by omega), Or.inl (hm _ (by omega))⟩
theorem li83 : (83 : Int32).toInt = ((8 * 10 + 3 : Nat) : Int) := by decide
theorem row_cub {m : Nat} {L0 L1 L2 L3 L4 : TL} {a b c d : Int64} (h0 : rp L0 m 10 = p0) (e1 : L1 = u2 L0 (m + 1) (8 * 10 + 0) d) (e2 : L2 = u2 L1 (m + 1) (8 * 10 + 2) b) (e3 : L3 = u2 L2 (m + 1) (8 * 10 + 3) a) (e4 : L4 = u2 L3 (m + 1) (8 * 10 + 1) c) : rp L4 m 10 = cub a.toInt b.toInt c.toInt d.toInt := funext fun k => by
  unfold cub
  by_cases w : k < 8
  · rw [rp_lt w, e4]
    by_cases x1 : k = 1
    · subst x1; rw [u2_self, if_neg (by omega), if_pos rfl]
    · rw [u2_ne _ _ (fun t => x1 (by omega)), e3]
      by_cases x3 : k = 3
      · subst x3; rw [u2_self, if_neg (by omega), if_neg (by omega), if_neg (by omega), if_pos rfl]
      · rw [u2_ne _ _ (fun t => x3 (by omega)), e2]
        by_cases x2 : k = 2
        · subst x2; rw [u2_self, if_neg (by omega), if_neg (by omega), if_pos rfl]
        · rw [u2_ne _ _ (fun t => x2 (by omega)), e1]
          by_cases x0 : k = 0
          · subst x0; rw [u2_self, if_pos rfl]
          · rw [u2_ne _ _ (fun t => x0 (by omega)), if_neg x0, if_neg x1, if_neg x2, if_neg x3, ← rp_lt w, h0]; rfl
  · rw [rp, if_neg w, if_neg (by omega), if_neg (by omega), if_neg (by omega), if_neg (by omega)]
set_option maxHeartbeats 4000000 in
theorem m_tryThird {m c nl nw Vl Vw : Nat} {f0 g : PP} {q : Nat → PP} {n : Nat → Nat} {J : Nat → Int32} {ev od : Int32} (hm : isX7 K m) (hf : body f0) (hfs : FS f0 c q n g) (hp : PtS m I L c q n) (hg : rp L m 8 = g) (hno : ∀ t, dgI t 1 → ¬ dv t g) (hnl : nl ≤ 34) (hnw : nw ≤ 34) (hJ : I (m + 7) = J) (h14 : I m 14 = nI nw) (h17 : I m 17 = nI nl) (hll : lst J 0 nl Vl) (hlw : lst J 100 nw Vw) (hVl : Vl ≤ 300) (hVw : Vw ≤ 300) (hVl0 : 0 < Vl) (hVw0 : 0 < Vw) (hev : ev.toInt.natAbs ≤ 2100) (hod : od.toInt.natAbs ≤ 2100) :
    ConV K yX7_tryThird wsX7_tryThird 4 96 I L A [.ref m, .int (nI 8), .int ev, .int od] (fun I' L' A' => (∃ c' q' n' g', FS f0 c' q' n' g' ∧ PtS m I' L' c' q' n' ∧ rp L' m 8 = g' ∧ dv g' g ∧ (dgI g' 6 → ∀ x y, x < nl → y < 2 * nw → ¬ dv (cub (J x).toInt (ev.toInt - sgv J 100 y) (od.toInt - (J x).toInt) (sgv J 100 y)) g')) ∧ RU m rT L L' ∧ FrI m I I' ∧ A' = A) := by
  obtain ⟨Qc, hQc⟩ : ∃ Qc : Nat → Nat → PP, Qc = fun x y => cub (J x).toInt (ev.toInt - sgv J 100 y) (od.toInt - (J x).toInt) (sgv J 100 y) := ⟨_, rfl⟩
  have li6' : (6 : Int32).toInt = 6 := by decide
  have hc12 : ∀ (c : Nat), c ≤ 6 → ∀ s, (s = 8 ∨ s = 9 ∨ s = 11 ∨ s = 12 + c) → rT s := fun c hc s h => by show 8 ≤ s ∧ s < 20; omega
  have r10 : ∀ s : Nat, s = 10 → rT s := fun s h => by show 8 ≤ s ∧ s < 20; omega
  have r911 : ∀ s : Nat, (s = 9 ∨ s = 11) → rT s := fun s h => by show 8 ≤ s ∧ s < 20; omega
  obtain ⟨T, hT⟩ : ∃ T : Nat → Nat → PP → Prop, T = fun i k g' => dgI g' 6 → ∀ x y, (x < i ∨ (x = i ∧ y < k)) → x < nl → y < 2 * nw → ¬ dv (Qc x y) g' := ⟨_, rfl⟩
  obtain ⟨S, hS⟩ : ∃ S : Nat → Nat → TI → TL → TA → Prop, S = fun i k I' L' A' => ∃ c' q' n' g', FS f0 c' q' n' g' ∧ PtS m I' L' c' q' n' ∧ rp L' m 8 = g' ∧ dv g' g ∧ T i k g' ∧ RU m rT L L' ∧ FrI m I I' ∧ A' = A := ⟨_, rfl⟩
  apply w_X7_tryThird
  unfold wp_X7_tryThird wp_X7_tryThird_3
  refine ⟨fun μ I' L' A' x => ∃ i, i + μ = nl ∧ x = nI i ∧ S i 0 I' L' A', nl, ⟨0, by omega, rfl, ?_⟩, ?_⟩
  · rw [hS]
    refine ⟨c, q, n, g, hfs, hp, hg, dv.refl g, ?_, RU.refl _ _ _, FrI.refl _ _, rfl⟩
    rw [hT]; exact fun _ x y h => by omega
  rintro μ C hC I' L' A' _ ⟨i, hi, rfl, hst⟩
  have hst0 := hst
  rw [hS] at hst0
  obtain ⟨c', q', n', g', g1, g2, gr, g4, g5, g6, g7, g11⟩ := hst0
  have k17 : I' m 17 = nI nl := by rw [g7.2 17 (by omega)]; exact h17
  refine ⟨hm.1, fun zz => ?_, fun zz => ?_⟩
  · rw [k17, ile, tI (by omega), tI (by omega)] at zz
    refine ⟨⟨c', q', n', g', g1, g2, gr, g4, fun h6 x y hx hy => ?_⟩, g6, g7, g11⟩
    rw [hT] at g5
    have := g5 h6 x y (Or.inl (by omega)) hx hy
    rw [hQc] at this
    exact this
  · rw [k17, ile, tI (by omega), tI (by omega)] at zz
    have hinl : i < nl := by omega
    clear g1 g2 gr g4 g5 g6 g7 g11 k17 c' q' n' g'
    unfold wp_X7_tryThird_15
    refine ⟨fun ν I'' L'' A'' x4 x5 => ∃ k, k + ν = 2 * nw ∧ x4 = nI i ∧ x5 = nI k ∧ S i k I'' L'' A'', 2 * nw, ⟨0, by omega, rfl, rfl, hst⟩, ?_⟩
    rintro ν C' hC' I2' L2' A2' _ _ ⟨k, hk, rfl, rfl, hst2⟩
    rw [hS] at hst2
    obtain ⟨c', q', n', g', g1, g2, gr, g4, g5, g6, g7, g11⟩ := hst2
    have k14 : I2' m 14 = nI nw := by rw [g7.2 14 (by omega)]; exact h14
    have k7 : I2' (m + 7) = J := by rw [g7.1 _ (by omega) (by omega)]; exact hJ
    have hg'b := body_bd hf g1.1 g1.dvd
    have hg'8 : dl g' 8 := dl_mono hg'b.1 (by omega)
    have hno' : ∀ t, dgI t 1 → ¬ dv t g' := fun t ht w => hno t ht (w.trans g4)
    obtain ⟨d', hd1', hd2', hd3'⟩ := dg_ex g' 7 hg'b.1 g1.2.1
    have hlen' : lnP g' 8 = d' + 1 := lnP_of hd3' (fun x hx => by rw [show x = d' by omega]; exact hd2') (by omega)
    refine ⟨hm.1, fun y v2 ev2 => ?_, fun y => ⟨_, m_degreeOf hm (show 8 < 30 by omega), ?_⟩⟩
    · rw [k14, ile, i2mul (by omega), tI (by omega)] at y
      refine hC (μ - 1) _ _ _ _ (by omega) ⟨i + 1, by omega, by rw [ev2, sI], ?_⟩
      rw [hS]
      refine ⟨c', q', n', g', g1, g2, gr, g4, ?_, g6, g7, g11⟩
      rw [hT] at g5 ⊢
      exact fun h6 x y h h1 h2 => g5 h6 x y (by omega) h1 h2
    rw [k14, ile, i2mul (by omega), tI (by omega)] at y
    have hkn : k < 2 * nw := by omega
    rintro v I4 L4 A4 ⟨rfl, rfl, rfl, rfl⟩
    rw [gr, hlen', tp_s]
    have d6 : nI d' = 6 ↔ d' = 6 := by rw [← Int32.toInt_inj, tI (by omega), li6']; omega
    have next : ∀ (I3' : TI) (L3' : TL) (A3' : TA), (∃ c'' q'' n'' g'', FS f0 c'' q'' n'' g'' ∧ PtS m I3' L3' c'' q'' n'' ∧ rp L3' m 8 = g'' ∧ dv g'' g' ∧ (dgI g'' 6 → ¬ dv (Qc i k) g'')) → RU m rT L L3' → FrI m I4 I3' → A3' = A4 → ∀ v : Int32, v = nI k + 1 → C' I3' L3' A3' (nI i) v := by
      intro I3' L3' A3' ⟨c'', q'', n'', g'', p1, p2, p3, p4, p5⟩ p6 p7 p8 v hv
      refine hC' (ν - 1) _ _ _ _ _ (by omega) ⟨k + 1, by omega, rfl, by rw [hv, sI], ?_⟩
      rw [hS]
      refine ⟨c'', q'', n'', g'', p1, p2, p3, p4.trans g4, ?_, p6, g7.trans p7, p8.trans g11⟩
      rw [hT] at g5 ⊢
      intro h6 a b h h1 h2
      by_cases w : a = i ∧ b = k
      · rw [w.1, w.2]; exact p5 h6
      · have h66 : dgI g' 6 := by
          have := p4.le h6 ⟨hd2', hd3'⟩
          rw [show 6 = d' by omega]; exact ⟨hd2', hd3'⟩
        exact fun z => g5 h66 a b (by omega) h1 h2 (z.trans p4)
    refine ⟨fun y3 => ⟨_, m_clear hm (show 10 < 30 by omega), ?_⟩, fun y3 v ev' => ?_⟩
    rotate_left
    · -- the degree has fallen: this row of the loop ends
      refine hC (μ - 1) _ _ _ _ (by omega) ⟨i + 1, by omega, by rw [ev', sI], ?_⟩
      rw [hS]
      refine ⟨c', q', n', g', g1, g2, gr, g4, ?_, g6, g7, g11⟩
      rw [hT]
      exact fun h6 => absurd (h6.uniq ⟨hd2', hd3'⟩).symm (fun w => y3 (d6.mpr w))
    have hd6 := d6.mp y3
    subst hd6
    rintro I5 L5 A5 ⟨hz5, hru5, rfl, rfl⟩
    have h100 := ihalf (c := 100) (fr := 100) (k := k) (by decide) (by omega) (by omega)
    obtain ⟨dw, hdw1, hdw2, -, hdw3⟩ := hlw.val (by omega) hVw0 (show k / 2 < nw by omega)
    obtain ⟨dl', hdl1, hdl2, -, hdl3⟩ := hll.val (by omega) hVl0 hinl
    rw [Nat.zero_add] at hdl3
    rw [ix_of h100, k7]
    refine ⟨⟨600, hm.2.2.2.2.2.2.2.1, inOf h100 (by omega)⟩, _, m_signed (k := k) (by omega) (by rw [hdw3]; omega), ?_⟩
    rintro sv I6 L6 A6 ⟨hsv, rfl, rfl, rfl⟩
    have hsv' : sv.toInt = sgv J 100 k := hsv
    have hb1 := hlw.sgb (by omega) hVw0 hkn
    have hokI : aok (cxS K) (m + 7) 0 (nI i) := ⟨600, hm.2.2.2.2.2.2.2.1, inOf (tI (by omega)) (show i < 600 by omega)⟩
    rw [ixn (by omega), k7]
    refine ⟨rok hm (show 10 < 30 by omega) (show 0 < 8 by omega) li80, fun L23 e23 => ⟨rok hm (show 10 < 30 by omega) (show 2 < 8 by omega) li82, fun L25 e25 => ⟨hokI, rok hm (show 10 < 30 by omega) (show 3 < 8 by omega) li83, fun L28 e28 => ⟨hokI, rok hm (show 10 < 30 by omega) (show 1 < 8 by omega) li81, fun L31 e31 => ?_⟩⟩⟩⟩
    rw [ix_of li80] at e23
    rw [ix_of li82] at e25
    rw [ix_of li83] at e28
    rw [ix_of li81] at e31
    have hes : (ev - sv).toInt = ev.toInt - sgv J 100 k := by rw [isub (by rw [hsv']; omega) (by rw [hsv']; omega), hsv']
    have hol : (od - J i).toInt = od.toInt - (J i).toInt := isub (by rw [hdl3]; omega) (by rw [hdl3]; omega)
    have h10 := row_cub hz5 e23 e25 e28 e31
    rw [Int32.toInt_toInt64, Int32.toInt_toInt64, Int32.toInt_toInt64, Int32.toInt_toInt64, hsv', hes, hol] at h10
    have hQe : Qc i k = cub (J i).toInt (ev.toInt - sgv J 100 k) (od.toInt - (J i).toInt) (sgv J 100 k) := by rw [hQc]
    rw [← hQe] at h10
    have hte : dgI (Qc i k) 3 := by rw [hQe]; exact cub_dg (by rw [hdl3]; omega)
    have ht8 : dl (Qc i k) 8 := dl_mono hte.2 (by omega)
    have htb : ∀ j, (Qc i k j).natAbs ≤ 2400 := fun j => by
      rw [hQe]; unfold cub
      split
      · omega
      · split
        · rw [hdl3]; omega
        · split
          · omega
          · split
            · rw [hdl3]; omega
            · simp
    have ht3 : (Qc i k 3).natAbs ≤ 300 ∧ 0 < Qc i k 3 := by
      rw [hQe]; show (J i).toInt.natAbs ≤ 300 ∧ 0 < (J i).toInt
      rw [hdl3]; omega
    have hru31 : RU m (· = 10) L4 L31 := (((hru5.trans (ru_row (by omega) e23)).trans (ru_row (by omega) e25)).trans (ru_row (by omega) e28)).trans (ru_row (by omega) e31)
    have hp31 : PtS m I6 L31 c' q' n' := g2.keep rfl rfl hru31 (fun i hi => by omega)
    have hg31 : rp L31 m 8 = g' := (hru31.same (show ¬ 8 = 10 by omega)).trans gr
    have hruB : RU m rT L L31 := g6.trans (hru31.mono r10)
    have li2 : (2 : Int32).toInt = 2 := by decide
    have stay : ¬ dv (Qc i k) g' → ∀ v : Int32, v = nI k + 1 → C' I6 L31 A6 (nI i) v := fun hn => next _ _ _ ⟨c', q', n', g', g1, hp31, hg31, dv.refl g', fun _ => hn⟩ hruB (FrI.refl _ _) rfl
    refine ⟨_, m_valueAt (M := 2400) (X := 2) hm (show 10 < 30 by omega) (by rw [h10]; exact htb) (by decide) (by decide), ?_⟩
    rintro r37 I7 L7 A7 ⟨h37, rfl, rfl, rfl⟩
    rw [h10, li2] at h37
    have hv2 : dv (Qc i k) g' → val8 (Qc i k) 2 ∣ val8 g' 2 := fun w => val8_dvd 2 w hte.pf ht8 hg'8
    refine ⟨fun z => stay (fun w => ?_), fun z => ⟨_, m_valueAt (M := 33350) (X := 2) hm (show 8 < 30 by omega) (by rw [hg31]; exact hg'b.2.1) (by decide) (by decide), ?_⟩⟩
    · rw [j0, h37] at z
      have := hv2 w
      rw [z] at this
      exact no_root g1.1 hg'8 hno' 2 (Int.zero_dvd.mp this)
    rintro r44 I8 L8 A8 ⟨h44, rfl, rfl, rfl⟩
    rw [hg31, li2] at h44
    have hb44 := hor_bd (f := g') (x := 2) (M := 33350) (X := 2) hg'b.2.1 (by decide) 8 0
    have hrem : (r44 - r44 / r37 * r37).toInt = (val8 g' 2).tmod (val8 (Qc i k) 2) := by
      rw [jrem _ _ (by rw [h44]; show _ < hor g' 2 0 8; have : 33350 * (1 + 2) ^ 8 < 9223372036854775808 := by decide
                       omega), h44, h37]
    have hokA : ∀ s, dv s g' → Pf s → s ≠ p0 → dl s 8 ∧ dOK (Qc i k) 3 s ∧ ∀ j, (Qc i k 3 * s j).natAbs < 9223372036854775808 := fun s k1 k2 k3 => by
      have kb := body_bd hf k2 (k1.trans g1.dvd)
      exact ⟨dl_mono kb.1 (by omega), dOK_cub hf k2 k3 (k1.trans g1.dvd) (fun j _ => htb j), fun j => by have := mul_ab ht3.1 (kb.2.1 j); omega⟩
    refine ⟨z, fun z2 => ?_, fun z2 => stay (fun w => z2 ?_)⟩
    rotate_left
    · rw [j0, hrem]; exact Int.tmod_eq_zero_of_dvd (hv2 w)
    obtain ⟨MA, MB, o1, o2, o3, o4⟩ := (hokA g' (dv.refl g') g1.1 g1.2.1).2.1
    refine ⟨_, m_divides (y := 10) (a := 8) (e := 3) (da := lnP g' 8) (MA := MA) (MB := MB) hm (by decide) (by decide) (by decide) (by decide) (by decide) (by decide) (by rw [h10]; exact hte) (by rw [hg31]) (by rw [hg31]; exact o1) (by rw [h10]; exact o2) o3 (by rw [h10]; exact o4), ?_⟩
    rintro r52 I9 L9 A9 ⟨h52, hru9, rfl, rfl⟩
    rw [h10, hg31] at h52
    have hp9 : PtS m I9 L9 c' q' n' := hp31.keep rfl rfl hru9 (fun i hi => by omega)
    have hg9 : rp L9 m 8 = g' := (hru9.same (show ¬ (8 = 9 ∨ 8 = 11) by omega)).trans hg31
    have h109 : rp L9 m 10 = Qc i k := (hru9.same (show ¬ (10 = 9 ∨ 10 = 11) by omega)).trans h10
    have hruC : RU m rT L L9 := hruB.trans (hru9.mono r911)
    refine ⟨fun z3 => next _ _ _ ⟨c', q', n', g', g1, hp9, hg9, dv.refl g', fun _ ⟨s, hs, es⟩ => ?_⟩ hruC (FrI.refl _ _) rfl, fun z3 => ?_⟩
    · rcases h52 with ⟨w, -⟩ | ⟨-, w⟩
      · rw [w] at z3; exact absurd z3 (by decide)
      · have hs0 : s ≠ p0 := fun y => g1.2.1 (by rw [← es, y]; funext j; rw [pm_comm, pm_0l])
        exact w s hs (hokA s ⟨Qc i k, hte.pf, by rw [← es]; funext j; rw [pm_comm]⟩ hs hs0).2.2 es
    have hdvt : dv (Qc i k) g' := by
      rcases h52 with ⟨-, w⟩ | ⟨w, -⟩
      · exact ⟨_, ⟨8, rp_dl L9 m 11⟩, w⟩
      · exact absurd w z3
    have hprm : prim (Qc i k) := prim_dv hf.2.1 (hdvt.trans g1.dvd)
    refine ⟨_, m_takeOut hm hp9 h109 hg9 g1.2.1 hte (by decide) (fun u => g1.fin hf.1.1 hte (by decide) u) hokA, ?_⟩
    rintro Ia La Aa ⟨⟨ka, ga, hgk, hgf, hga, hnd, hcase⟩, -, hrua, hfra, rfl⟩
    have hc6 := g2.2.1
    refine next _ _ _ ?_ (hruC.trans (hrua.mono (hc12 c' hc6))) hfra rfl
    have hda : dv ga g' := ⟨pw _ ka, pw_pf hte.pf ka, by rw [hgk]; funext j; rw [pm_comm]⟩
    rcases hcase with ⟨-, -, -, hn⟩ | ⟨hka, hpta, hdva⟩
    · exact absurd hdvt hn
    · exact ⟨_, _, _, ga, g1.step (irr_23 hte (by decide) (by decide) hprm (fun s hs w => hno' s hs (w.trans hdva))) ⟨3, hte, ht3.2⟩ hgk hgf hka hnd hdva, hpta, hga, hda, fun _ => hnd⟩
end
