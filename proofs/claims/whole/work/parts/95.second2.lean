/-! THE REFERENCE: findSecond -/
section
variable {K : Cx} {I : TI} {L : TL} {A : TA}
theorem i2mul {n : Nat} (hn : n ≤ 1000) : ((2 : Int32) * nI n).toInt = ((2 * n : Nat) : Int) := by
  rw [Int32.toInt_mul, tI (by omega), show (2 : Int32).toInt = 2 from by decide]
  exact (Int.bmod_eq_of_le (by omega) (by omega)).trans (by omega)
theorem ihalf {c : Int32} {fr k : Nat} (hc : c.toInt = fr) (hf : fr ≤ 400) (hk : k ≤ 1000) : (c + nI k / 2).toInt = ((fr + k / 2 : Nat) : Int) := by
  rw [idiv2 (by omega), iadd (by rw [tI (by omega), hc]; omega) (by rw [tI (by omega), hc]; omega), tI (by omega), hc]; omega
theorem FS.lead {f0 g : PP} {c d : Nat} {q : Nat → PP} {n : Nat → Nat} (h : FS f0 c q n g) (hf : body f0) (hg : dgI g d) : (g d).natAbs ≤ 300 := by
  obtain ⟨d0, hd0, -⟩ := hf.2.2
  have h1 := lead_dvd h.dvd hg hd0
  have h2 := Nat.le_of_dvd (Int.natAbs_pos.mpr hd0.1) (Int.natAbs_dvd_natAbs.mpr h1)
  have h3 := hf.1.2 d0
  omega
theorem FS.low {f0 g : PP} {c : Nat} {q : Nat → PP} {n : Nat → Nat} (h : FS f0 c q n g) (hf : body f0) : (g 0).natAbs ≤ 300 := by
  obtain ⟨d0, hd0, -⟩ := hf.2.2
  have hb := body_bd hf h.1 h.dvd
  have h1 := val_le (m := 0) (n := 7) h.1 (show Pf (prd q n c) from prd_pf c (fun i hi => by obtain ⟨d, hd, -⟩ := (h.2.2.2.1 i hi).2.1; exact hd.pf)) hf.1.1 hd0.ne (by rw [h.2.2.1]; funext k; rw [pm_comm]) hb.1 (sf_z hf.1)
  have e : sf 0 7 g 0 = g 0 := by simp [sf, pa, px, pc, pk0]
  rw [e] at h1
  omega
theorem low_ne {g : PP} (hgf : Pf g) (hg8 : dl g 8) (h : ∀ t, dgI t 1 → ¬ dv t g) : g 0 ≠ 0 := fun z => by
  have := no_root hgf hg8 h 0
  apply this
  rw [val8_sf]
  have e : sf 0 8 g 0 = g 0 := by simp [sf, pa, px, pc, pk0]
  rw [e]; exact z
set_option maxHeartbeats 4000000 in
theorem m_findSecond {m c : Nat} {f0 g : PP} {q : Nat → PP} {n : Nat → Nat} (hm : isX7 K m) (hf : body f0) (hfs : FS f0 c q n g) (hp : PtS m I L c q n) (hg : rp L m 8 = g) (hno : ∀ t, dgI t 1 → ¬ dv t g) :
    ConV K yX7_findSecond wsX7_findSecond 5 122 I L A [.ref m, .int (nI 8)] (fun I' L' A' => (∃ c' q' n' g', FS f0 c' q' n' g' ∧ PtS m I' L' c' q' n' ∧ rp L' m 8 = g' ∧ (∀ t, dgI t 1 → ¬ dv t g') ∧ (∀ d, dgI g' d → 4 ≤ d → ∀ t, dgI t 2 → ¬ dv t g')) ∧ RU m rT L L' ∧ FrF m I I' ∧ A' = A) := by
  have hgb := body_bd hf hfs.1 hfs.dvd
  have hg8 : dl g 8 := dl_mono hgb.1 (by omega)
  obtain ⟨d, hd1, hd2, hd3⟩ := dg_ex g 7 hgb.1 hfs.2.1
  have hlen : lnP g 8 = d + 1 := lnP_of hd3 (fun x hx => by rw [show x = d by omega]; exact hd2) (by omega)
  apply w_X7_findSecond
  unfold wp_X7_findSecond
  refine ⟨hm.1, _, m_degreeOf hm (show 8 < 30 by omega), ?_⟩
  rintro v I1 L1 A1 ⟨rfl, rfl, rfl, rfl⟩
  rw [hg, hlen, tp_s]
  have li4 : (4 : Int32).toInt = 4 := by decide
  refine ⟨fun z => ?_, fun z => ?_⟩
  rotate_left
  · rw [ile, li4, tI (by omega)] at z
    exact ⟨⟨c, q, n, g, hfs, hp, hg, hno, fun d' hd' h4 => by have := hd'.uniq ⟨hd2, hd3⟩; omega⟩, RU.refl _ _ _, FrF.refl _ _, rfl⟩
  rw [ile, li4, tI (by omega)] at z
  have hlead := hfs.lead hf ⟨hd2, hd3⟩
  have hlow := hfs.low hf
  have hlow0 := low_ne hfs.1 hg8 hno
  have hvals := body_val hf hfs.1 hfs.dvd
  have hnr := no_root hfs.1 hg8 hno
  refine ⟨_, m_prepare hm hg ⟨hd2, hd3⟩ hd1 hgb.2.1 hlead hlow hlow0 hvals.1 (hnr 1) hvals.2 (hnr (-1)), ?_⟩
  rintro I2 L2 A2 ⟨⟨nl, nw, no, nm, hnl, hnw, hno200, -, h17, h14, h15, -, hll, hlw, hlo, -⟩, hfr2, rfl, rfl⟩
  obtain ⟨J, hJ⟩ : ∃ J : Nat → Int32, J = I2 (m + 7) := ⟨_, rfl⟩
  rw [← hJ] at hll hlw hlo
  have hp2 : PtS m I2 L2 c q n := hp.keep (hfr2.2 2 (by omega) (by omega) (by omega) (by omega)) (hfr2.1 (m + 2) (by omega) (by omega)) (RU.refl m (fun _ => False) _) (fun _ _ h => h)
  obtain ⟨Qd, hQd⟩ : ∃ Qd : Nat → Nat → Nat → PP, Qd = fun x y w => quad (J x).toInt (sgv J 200 w - (J x).toInt - sgv J 100 y) (sgv J 100 y) := ⟨_, rfl⟩
  -- tried without success, as long as the degree is 4 at least
  obtain ⟨T, hT⟩ : ∃ T : Nat → Nat → Nat → PP → Prop, T = fun i k u g' => (∃ d', dgI g' d' ∧ 4 ≤ d') → ∀ x y w, (x < i ∨ (x = i ∧ (y < k ∨ (y = k ∧ w < u)))) → x < nl → y < 2 * nw → w < 2 * no → prim (Qd x y w) → ¬ dv (Qd x y w) g' := ⟨_, rfl⟩
  obtain ⟨S, hS⟩ : ∃ S : Nat → Nat → Nat → TI → TL → TA → Prop, S = fun i k u I' L' A' => ∃ c' q' n' g', FS f0 c' q' n' g' ∧ PtS m I' L' c' q' n' ∧ rp L' m 8 = g' ∧ dv g' g ∧ T i k u g' ∧ RU m rT L2 L' ∧ FrF m I1 I' ∧ I' (m + 7) = J ∧ I' m 14 = nI nw ∧ I' m 15 = nI no ∧ I' m 17 = nI nl ∧ A' = A2 := ⟨_, rfl⟩
  have hdown : ∀ {g1 g2 : PP}, dv g2 g1 → Pf g1 → g1 ≠ p0 → (∃ d', dgI g2 d' ∧ 4 ≤ d') → ∃ d', dgI g1 d' ∧ 4 ≤ d' := fun h1 h2 h3 ⟨d', hd', h4⟩ => by
    obtain ⟨d1, hd1⟩ := h2.dg h3
    exact ⟨d1, hd1, by have := h1.le hd' hd1; omega⟩
  unfold wp_X7_findSecond_17
  refine ⟨fun μ I' L' A' x => ∃ i, i + μ = nl ∧ x = nI i ∧ S i 0 0 I' L' A', nl, ⟨0, by omega, rfl, ?_⟩, ?_⟩
  · rw [hS]
    refine ⟨c, q, n, g, hfs, hp2, hg, dv.refl g, ?_, RU.refl _ _ _, hfr2.f, hJ.symm, h14, h15, h17, rfl⟩
    rw [hT]; exact fun _ x y w h => by omega
  rintro μ C hC I' L' A' _ ⟨i, hi, rfl, hst⟩
  have hst0 := hst
  rw [hS] at hst0
  obtain ⟨c', q', n', g', g1, g2, gr, g4, g5, g6, g7, g8, g9, g9', g10, g11⟩ := hst0
  refine ⟨hm.1, fun zz => ?_, fun zz => ?_⟩
  · rw [g10, ile, tI (by omega), tI (by omega)] at zz
    have hno' : ∀ t, dgI t 1 → ¬ dv t g' := fun t ht w => hno t ht (w.trans g4)
    refine ⟨⟨c', q', n', g', g1, g2, gr, hno', fun d' hd' h4 t ht w => ?_⟩, g6, g7, g11⟩
    obtain ⟨t1, ht1, htp, htpos, htd⟩ := prim_dv_ex ht w
    have hqE := quad_of ht1.2
    have hdg : dv t1 g := htd.trans g4
    have ht8 : dl t1 8 := dl_mono ht1.2 (by omega)
    have k1 : (t1 2).natAbs ∣ (g d).natAbs := Int.natAbs_dvd_natAbs.mpr (lead_dvd hdg ht1 ⟨hd2, hd3⟩)
    have k2 : (t1 0).natAbs ∣ (g 0).natAbs := Int.natAbs_dvd_natAbs.mpr (low_dvd hdg)
    have k3 : (t1 2 + t1 1 + t1 0).natAbs ∣ (val8 g 1).natAbs := by
      have := val8_dvd 1 hdg ht1.pf ht8 hg8
      rw [hqE, val_q1] at this
      exact Int.natAbs_dvd_natAbs.mpr this
    obtain ⟨x, hx, hJx⟩ := hll.2 (t1 2).natAbs (by omega) k1
    obtain ⟨y, hy, hJy⟩ := hlw.sg (by omega) (Int.natAbs_pos.mpr hlow0) k2
    obtain ⟨w', hw', hJw⟩ := hlo.sg hvals.1 (Int.natAbs_pos.mpr (hnr 1)) k3
    rw [Nat.zero_add] at hJx
    have hle1 := Nat.le_of_dvd (Int.natAbs_pos.mpr hd2) k1
    have hJx' : (J x).toInt = t1 2 := by rw [hJx, tI (by omega)]; omega
    have hQe : Qd x y w' = t1 := by
      rw [hQd]
      show quad (J x).toInt (sgv J 200 w' - (J x).toInt - sgv J 100 y) (sgv J 100 y) = t1
      rw [hJx', hJy, hJw, show t1 2 + t1 1 + t1 0 - t1 2 - t1 0 = t1 1 by omega, ← hqE]
    rw [hT] at g5
    exact g5 ⟨d', hd', h4⟩ x y w' (Or.inl (by omega)) hx hy hw' (by rw [hQe]; exact htp) (by rw [hQe]; exact htd)
  · rw [g10, ile, tI (by omega), tI (by omega)] at zz
    have hinl : i < nl := by omega
    clear g1 g2 gr g4 g5 g6 g7 g8 g9 g9' g10 g11 c' q' n' g'
    unfold wp_X7_findSecond_27
    refine ⟨fun ν I'' L'' A'' x2 x3 => ∃ k, k + ν = 2 * nw ∧ x2 = nI i ∧ x3 = nI k ∧ S i k 0 I'' L'' A'', 2 * nw, ⟨0, by omega, rfl, rfl, hst⟩, ?_⟩
    rintro ν C' hC' I2' L2' A2' _ _ ⟨k, hk, rfl, rfl, hst2⟩
    have hst2' := hst2
    rw [hS] at hst2'
    obtain ⟨c', q', n', g', g1, g2, gr, g4, g5, g6, g7, g8, g9, g9', g10, g11⟩ := hst2'
    refine ⟨hm.1, fun y v2 ev2 => ?_, fun y => ?_⟩
    · rw [g9, ile, i2mul (by omega), tI (by omega)] at y
      refine hC (μ - 1) _ _ _ _ (by omega) ⟨i + 1, by omega, by rw [ev2, sI], ?_⟩
      rw [hS]
      refine ⟨c', q', n', g', g1, g2, gr, g4, ?_, g6, g7, g8, g9, g9', g10, g11⟩
      rw [hT] at g5 ⊢
      exact fun h4 x y w h h1 h2 h3 => g5 h4 x y w (by omega) h1 h2 h3
    · rw [g9, ile, i2mul (by omega), tI (by omega)] at y
      have hkn : k < 2 * nw := by omega
      clear g1 g2 gr g4 g5 g6 g7 g8 g9 g9' g10 g11 c' q' n' g'
      unfold wp_X7_findSecond_40
      refine ⟨fun κ I'' L'' A'' x2 x3 x4 => ∃ u, u + κ = 2 * no ∧ x2 = nI i ∧ x3 = nI k ∧ x4 = nI u ∧ S i k u I'' L'' A'', 2 * no, ⟨0, by omega, rfl, rfl, rfl, hst2⟩, ?_⟩
      rintro κ C'' hC'' I3' L3' A3' _ _ _ ⟨u, hu, rfl, rfl, rfl, hst3⟩
      rw [hS] at hst3
      obtain ⟨c', q', n', g', g1, g2, gr, g4, g5, g6, g7, g8, g9, g9', g10, g11⟩ := hst3
      have hg'b := body_bd hf g1.1 g1.dvd
      obtain ⟨d', hd1', hd2', hd3'⟩ := dg_ex g' 7 hg'b.1 g1.2.1
      have hlen' : lnP g' 8 = d' + 1 := lnP_of hd3' (fun x hx => by rw [show x = d' by omega]; exact hd2') (by omega)
      refine ⟨hm.1, fun y2 v2 ev2 => ?_, fun y2 => ⟨_, m_degreeOf hm (show 8 < 30 by omega), ?_⟩⟩
      · rw [g9', ile, i2mul (by omega), tI (by omega)] at y2
        refine hC' (ν - 1) _ _ _ _ _ (by omega) ⟨k + 1, by omega, rfl, by rw [ev2, sI], ?_⟩
        rw [hS]
        refine ⟨c', q', n', g', g1, g2, gr, g4, ?_, g6, g7, g8, g9, g9', g10, g11⟩
        rw [hT] at g5 ⊢
        exact fun h4 x y w h h1 h2 h3 => g5 h4 x y w (by omega) h1 h2 h3
      · rw [g9', ile, i2mul (by omega), tI (by omega)] at y2
        have hun : u < 2 * no := by omega
        rintro v I4 L4 A4 ⟨rfl, rfl, rfl, rfl⟩
        rw [gr, hlen', tp_s]
        refine ⟨fun y3 v9 ev9 => ?_, fun y3 => ?_⟩
        · rw [ilt, li4, tI (by omega)] at y3
          refine hC' (ν - 1) _ _ _ _ _ (by omega) ⟨k + 1, by omega, rfl, by rw [ev9, sI], ?_⟩
          rw [hS]
          refine ⟨c', q', n', g', g1, g2, gr, g4, ?_, g6, g7, g8, g9, g9', g10, g11⟩
          rw [hT]
          exact fun ⟨d4, h4, h44⟩ => by have := h4.uniq ⟨hd2', hd3'⟩; omega
        · have h100 := ihalf (c := 100) (fr := 100) (k := k) (by decide) (by omega) (by omega)
          have h200 := ihalf (c := 200) (fr := 200) (k := u) (by decide) (by omega) (by omega)
          obtain ⟨dw, hdw1, hdw2, -, hdw3⟩ := hlw.val (by omega) (Int.natAbs_pos.mpr hlow0) (show k / 2 < nw by omega)
          obtain ⟨do', hdo1, hdo2, -, hdo3⟩ := hlo.val hvals.1 (Int.natAbs_pos.mpr (hnr 1)) (show u / 2 < no by omega)
          obtain ⟨dl', hdl1, hdl2, -, hdl3⟩ := hll.val (by omega) (Int.natAbs_pos.mpr hd2) hinl
          rw [Nat.zero_add] at hdl3
          rw [ix_of h100, g8, ixn (by omega)]
          refine ⟨⟨600, hm.2.2.2.2.2.2.2.1, inOf (tI (by omega)) (show i < 600 by omega)⟩, ⟨600, hm.2.2.2.2.2.2.2.1, inOf h100 (by omega)⟩, _, m_signed (k := k) (by omega) (by rw [hdw3]; omega), ?_⟩
          rintro sv I5 L5 A5 ⟨hsv, rfl, rfl, rfl⟩
          rw [ix_of h200, g8]
          refine ⟨⟨600, hm.2.2.2.2.2.2.2.1, inOf h200 (by omega)⟩, _, m_signed (k := u) (by omega) (by rw [hdo3]; omega), ?_⟩
          rintro so I6 L6 A6 ⟨hso, rfl, rfl, rfl⟩
          have hsv' : sv.toInt = sgv J 100 k := hsv
          have hso' : so.toInt = sgv J 200 u := hso
          have hb1 := hlw.sgb (by omega) (Int.natAbs_pos.mpr hlow0) hkn
          have hb2 := hlo.sgb hvals.1 (Int.natAbs_pos.mpr (hnr 1)) hun
          have hno' : ∀ t, dgI t 1 → ¬ dv t g' := fun t ht w => hno t ht (w.trans g4)
          refine ⟨_, m_trySecond hm hf g1 g2 gr hno' (by rw [hdl3]; omega) (by rw [hsv']; exact ⟨hb1.2, by omega⟩) (by rw [hso']; omega) (fun ⟨d6, h6, h66⟩ => ?_), ?_⟩
          · -- degree 6: then g is small too
            rw [hso']
            have hd6 : 6 ≤ d := by have := g4.le h6 ⟨hd2, hd3⟩; omega
            have := (val_6 hgb.1 (hgb.2.2 d ⟨hd2, hd3⟩ hd6)).1
            omega
          rintro I7 L7 A7 ⟨⟨c7, q7, n7, g7', p1, p2, p3, p4, p5⟩, p6, p7, p8⟩ v30 ev30
          rw [hsv', hso'] at p5
          refine hC'' (κ - 1) _ _ _ _ _ _ (by omega) ⟨u + 1, by omega, rfl, rfl, by rw [ev30, sI], ?_⟩
          rw [hS]
          refine ⟨c7, q7, n7, g7', p1, p2, p3, p4.trans g4, ?_, g6.trans p6, g7.trans p7.f, by rw [p7.1 _ (by omega) (by omega)]; exact g8, by rw [p7.2 _ (by omega)]; exact g9, by rw [p7.2 _ (by omega)]; exact g9', by rw [p7.2 _ (by omega)]; exact g10, p8.trans g11⟩
          rw [hT] at g5 ⊢
          intro h4 x y w h h1 h2 h3 h5
          by_cases hxyw : x = i ∧ y = k ∧ w = u
          · rw [hxyw.1, hxyw.2.1, hxyw.2.2] at h5 ⊢
            rw [hQd] at h5 ⊢
            exact p5 h5
          · exact fun z4 => g5 (hdown p4 g1.1 g1.2.1 h4) x y w (by omega) h1 h2 h3 h5 (z4.trans p4)
end
