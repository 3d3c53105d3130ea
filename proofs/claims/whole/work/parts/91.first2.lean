/-! THE REFERENCE: findFirst -/
section
variable {K : Cx} {I : TI} {L : TL} {A : TA}
/-- the k-th signed divisor of a list from fr on -/
def sgv (J : Nat → Int32) (fr k : Nat) : Int := if k % 2 = 0 then (J (fr + k / 2)).toInt else -(J (fr + k / 2)).toInt
theorem lst.sg {J : Nat → Int32} {fr n V : Nat} (h : lst J fr n V) (hV : V ≤ 10500) (hV0 : 0 < V) {x : Int} (hx : x.natAbs ∣ V) : ∃ k, k < 2 * n ∧ sgv J fr k = x := by
  have hx0 : 0 < x.natAbs := Nat.pos_of_dvd_of_pos hx hV0
  have hle := Nat.le_of_dvd hV0 hx
  obtain ⟨j, hj, hJ⟩ := h.2 x.natAbs hx0 hx
  rcases Int.lt_or_le 0 x with q | q
  · refine ⟨2 * j, by omega, ?_⟩
    unfold sgv
    rw [if_pos (by omega), show 2 * j / 2 = j by omega, hJ, tI (by omega)]; omega
  · refine ⟨2 * j + 1, by omega, ?_⟩
    unfold sgv
    rw [if_neg (by omega), show (2 * j + 1) / 2 = j by omega, hJ, tI (by omega)]; omega
theorem lst.val {J : Nat → Int32} {fr n V : Nat} (h : lst J fr n V) (hV : V ≤ 10500) (hV0 : 0 < V) {j : Nat} (hj : j < n) : ∃ d : Nat, 0 < d ∧ d ≤ V ∧ d ∣ V ∧ (J (fr + j)).toInt = d := by
  obtain ⟨d, h1, h2, h3⟩ := h.1 j hj
  have := Nat.le_of_dvd hV0 h2
  exact ⟨d, h1, this, h2, by rw [h3, tI (by omega)]⟩
theorem lst.sgb {J : Nat → Int32} {fr n V : Nat} (h : lst J fr n V) (hV : V ≤ 10500) (hV0 : 0 < V) {k : Nat} (hk : k < 2 * n) : (sgv J fr k).natAbs ≤ V ∧ sgv J fr k ≠ 0 := by
  obtain ⟨d, h1, h2, -, h3⟩ := h.val hV hV0 (show k / 2 < n by omega)
  unfold sgv
  rw [h3]
  split <;> omega
theorem li80 : (80 : Int32).toInt = ((8 * 10 + 0 : Nat) : Int) := by decide
theorem li81 : (81 : Int32).toInt = ((8 * 10 + 1 : Nat) : Int) := by decide
theorem li82 : (82 : Int32).toInt = ((8 * 10 + 2 : Nat) : Int) := by decide
/-- row 10 set to one of degree 1 -/
theorem row_lin {m : Nat} {L0 L1 L2 : TL} {u v : Int64} (h0 : rp L0 m 10 = p0) (e1 : L1 = u2 L0 (m + 1) (8 * 10 + 0) v) (e2 : L2 = u2 L1 (m + 1) (8 * 10 + 1) u) : rp L2 m 10 = lin u.toInt v.toInt := funext fun k => by
  unfold lin
  by_cases w : k < 8
  · rw [rp_lt w, e2]
    by_cases a : k = 1
    · subst a; rw [u2_self, if_neg (by omega), if_pos rfl]
    · rw [u2_ne _ _ (fun t => a (by omega)), e1]
      by_cases b : k = 0
      · subst b; rw [u2_self, if_pos rfl]
      · rw [u2_ne _ _ (fun t => b (by omega)), if_neg b, if_neg a, ← rp_lt w, h0]; rfl
  · rw [rp, if_neg w, if_neg (by omega), if_neg (by omega)]
theorem ru_row {m : Nat} {L0 L1 : TL} {k : Nat} {v : Int64} (hk : k < 8) (e1 : L1 = u2 L0 (m + 1) (8 * 10 + k) v) : RU m (· = 10) L0 L1 := by rw [e1]; exact u2_ru hk
theorem PtS.keep {m c : Nat} {q : Nat → PP} {n : Nat → Nat} {I' : TI} {L' : TL} {S : Nat → Prop} (h : PtS m I L c q n) (hI2 : I' m 2 = I m 2) (hI : I' (m + 2) = I (m + 2)) (hru : RU m S L L') (hS : ∀ i, i < 6 → ¬ S (12 + i)) : PtS m I' L' c q n := ⟨by rw [hI2]; exact h.1, h.2.1, fun i hi => by
  have := h.2.1
  obtain ⟨a, b⟩ := h.2.2 i hi
  exact ⟨(hru.same (hS i (by omega))).trans a, by rw [hI]; exact b⟩⟩
theorem FS.fin {f0 g : PP} {c : Nat} {q : Nat → PP} {n : Nat → Nat} (h : FS f0 c q n g) (hs : dl f0 7) {t : PP} {e : Nat} (hte : dgI t e) (he : 0 < e) (hd : dv t g) : c < 6 := by
  obtain ⟨d, hg⟩ := h.1.dg h.2.1
  have h1 := h.cnt hs hg
  have h2 := hd.le hte hg
  omega
set_option maxHeartbeats 4000000 in
theorem m_findFirst {m c : Nat} {f0 g : PP} {q : Nat → PP} {n : Nat → Nat} (hm : isX7 K m) (hf : body f0) (hfs : FS f0 c q n g) (hp : PtS m I L c q n) (hg : rp L m 8 = g) :
    ConV K yX7_findFirst wsX7_findFirst 4 96 I L A [.ref m, .int (nI 8)] (fun I' L' A' => (∃ c' q' n' g', FS f0 c' q' n' g' ∧ PtS m I' L' c' q' n' ∧ rp L' m 8 = g' ∧ ∀ t, dgI t 1 → ¬ dv t g') ∧ RU m rT L L' ∧ FrF m I I' ∧ A' = A) := by
  have hs7 := hf.1.1
  have hc12 : ∀ (c : Nat), c ≤ 6 → ∀ s, (s = 8 ∨ s = 9 ∨ s = 11 ∨ s = 12 + c) → rT s := fun c hc s h => by show 8 ≤ s ∧ s < 20; omega
  have r10 : ∀ s : Nat, s = 10 → rT s := fun s h => by show 8 ≤ s ∧ s < 20; omega
  have r911 : ∀ s : Nat, (s = 9 ∨ s = 11) → rT s := fun s h => by show 8 ≤ s ∧ s < 20; omega
  apply w_X7_findFirst
  unfold wp_X7_findFirst
  refine ⟨hm.1, _, m_clear hm (show 10 < 30 by omega), ?_⟩
  rintro I1 L1 A1 ⟨hz1, hru1, rfl, rfl⟩
  refine ⟨rok hm (show 10 < 30 by omega) (show 1 < 8 by omega) li81, fun L2 e2 => ?_⟩
  rw [ix_of li81] at e2
  have hru2 := ru_row (m := m) (by omega) e2
  -- x itself
  have h10 : rp L2 m 10 = lin 1 0 := by
    have := row_lin (u := 1) (v := 0) hz1 (L1 := u2 L1 (m + 1) (8 * 10 + 0) 0) (L2 := u2 (u2 L1 (m + 1) (8 * 10 + 0) 0) (m + 1) (8 * 10 + 1) 1) rfl rfl
    rw [show (1 : Int64).toInt = 1 from by decide, show (0 : Int64).toInt = 0 from rfl] at this
    rw [← this]
    funext k
    by_cases w : k < 8
    · rw [rp_lt w, rp_lt w, e2]
      by_cases a : k = 1
      · subst a; rw [u2_self, u2_self]
      · rw [u2_ne _ _ (fun t => a (by omega)), u2_ne _ _ (fun t => a (by omega))]
        by_cases b : k = 0
        · subst b
          rw [u2_self]
          have := congrFun hz1 0
          rw [rp_lt (by omega)] at this
          exact this
        · rw [u2_ne _ _ (fun t => b (by omega))]
    · rw [rp, if_neg w, rp, if_neg w]
  have hru12 : RU m (· = 10) L L2 := hru1.trans hru2
  have hp2 : PtS m I1 L2 c q n := hp.keep rfl rfl hru12 (fun i hi => by omega)
  have hg2 : rp L2 m 8 = g := (hru12.same (show ¬ 8 = 10 by omega)).trans hg
  have hx1 : dgI (lin 1 0) 1 := lin_dg (by decide)
  have hxp : prim (lin 1 0) := lin_prim (by decide)
  refine ⟨_, m_takeOut hm hp2 h10 hg2 hfs.2.1 hx1 (by decide) (fun w => hfs.fin hs7 hx1 (by decide) w) (ok_lin hf hfs.dvd (by decide) (by decide)), ?_⟩
  rintro I3 L3 A3 ⟨⟨k3, g3, hgk, hg3f, hg3, hnx, hcase⟩, h103, hru3, hfr3, rfl⟩
  -- the state behind x
  obtain ⟨c3, q3, n3, hfs3, hp3⟩ : ∃ c3 q3 n3, FS f0 c3 q3 n3 g3 ∧ PtS m I3 L3 c3 q3 n3 := by
    rcases hcase with ⟨hk, -, hpt, -⟩ | ⟨hk, hpt, hdv⟩
    · subst hk
      have : g3 = g := by rw [hgk]; show g3 = pm (pk0 1) g3; rw [pm_1l]
      exact ⟨c, q, n, by rw [this]; exact hfs, hpt⟩
    · exact ⟨_, _, _, hfs.step (deg1_irr hx1 hxp) ⟨1, hx1, by decide⟩ hgk hg3f hk hnx hdv, hpt⟩
  have hc6 := hp.2.1
  have hruA : RU m rT L L3 := (hru12.mono r10).trans (hru3.mono (hc12 c hc6))
  have hg30 : g3 0 ≠ 0 := fun z => hnx ⟨pt g3, ⟨8, fun k hk => by
      show g3 (k + 1) = 0
      rw [← hg3]; exact rp_dl L3 m 8 (k + 1) (by omega)⟩, funext fun k => by
      have e1 : lin 1 0 = px (pk0 1) := funext fun j => by
        match j with
        | 0 => rfl
        | 1 => rfl
        | j + 2 => show (if j + 2 = 0 then (0 : Int) else if j + 2 = 1 then 1 else 0) = 0; rw [if_neg (by omega), if_neg (by omega)]
      rw [e1, pm_x, pm_1l]
      cases k with
      | zero => exact z.symm
      | succ k => rfl⟩
  have hg3b := body_bd hf hg3f hfs3.dvd
  refine ⟨_, m_degreeOf hm (show 8 < 30 by omega), ?_⟩
  rintro v I4 L4 A4 ⟨rfl, rfl, rfl, rfl⟩
  rw [hg3]
  obtain ⟨d, hd1, hd2, hd3⟩ := dg_ex g3 7 hg3b.1 hfs3.2.1
  have hlen : lnP g3 8 = d + 1 := lnP_of hd3 (fun x hx => by rw [show x = d by omega]; exact hd2) (by omega)
  rw [hlen, tp_s]
  refine ⟨fun z => ?_, fun z => ?_⟩
  rotate_left
  · rw [ile, li1, tI (by omega)] at z
    refine ⟨⟨c3, q3, n3, g3, hfs3, hp3, hg3, fun t ht w => ?_⟩, hruA, hfr3.f, rfl⟩
    have := w.le ht ⟨hd2, hd3⟩
    omega
  rw [ile, li1, tI (by omega)] at z
  -- lead and lowest place
  have hlead : (g3 d).natAbs ≤ 300 ∧ 0 < (g3 d).natAbs := by
    obtain ⟨d0, hd0, -⟩ := hf.2.2
    have h1 := lead_dvd hfs3.dvd ⟨hd2, hd3⟩ hd0
    have h2 := Nat.le_of_dvd (Int.natAbs_pos.mpr hd0.1) (Int.natAbs_dvd_natAbs.mpr h1)
    have h3 := hf.1.2 d0
    exact ⟨by omega, Int.natAbs_pos.mpr hd2⟩
  have hlow : (g3 0).natAbs ≤ 300 := by
    have h1 := val_le (m := 0) (n := 7) hg3f (show Pf (prd q3 n3 c3) from prd_pf c3 (fun i hi => by obtain ⟨d, hd, -⟩ := (hfs3.2.2.2.1 i hi).2.1; exact hd.pf)) hf.1.1 (by obtain ⟨d0, hd0, -⟩ := hf.2.2; exact hd0.ne) (by rw [hfs3.2.2.1]; funext k; rw [pm_comm]) hg3b.1 (sf_z hf.1)
    have e : sf 0 7 g3 0 = g3 0 := by simp [sf, pa, px, pc, pk0]
    rw [e] at h1
    omega
  have hixd := rix (show 8 < 30 by omega) (show d < 8 by omega) (x := nI 8) rfl (tI (k := d) (by omega))
  have hvd : (L4 (m + 1) (ix (8 * nI 8 + nI d))).toInt = g3 d := by rw [ix_of hixd, ← rp_lt (by omega), hg3]
  refine ⟨rok hm (show 8 < 30 by omega) (show d < 8 by omega) hixd, _, m_list (fr := 0) (V := (g3 d).natAbs) hm (by rw [hvd]) (by omega) (by omega), ?_⟩
  rintro vl I5 L5 A5 ⟨⟨nl, rfl, -, hnl34, hlstl, -, hout5⟩, hoth5, rfl, rfl⟩ I6 e6
  have h8n : ((8 : Int32) * nI 8).toInt = ((8 * 8 + 0 : Nat) : Int) := by decide
  have hv0 : (L5 (m + 1) (ix (8 * nI 8))).toInt = g3 0 := by rw [ix_of h8n, ← rp_lt (by omega), hg3]
  refine ⟨rok hm (show 8 < 30 by omega) (show 0 < 8 by omega) h8n, _, m_list (fr := 100) (V := (g3 0).natAbs) hm (by rw [hv0]) (by omega) (by omega), ?_⟩
  rintro vw I7 L7 A7 ⟨⟨nw, rfl, -, hnw34, hlstw, -, hout7⟩, hoth7, rfl, rfl⟩ I8 e8
  have hnl : nl ≤ 34 := hnl34 hlead.1
  have hnw : nw ≤ 34 := hnw34 hlow
  obtain ⟨J, hJ⟩ : ∃ J : Nat → Int32, J = I8 (m + 7) := ⟨_, rfl⟩
  have hJ7 : J = I7 (m + 7) := by rw [hJ, e8, u2_off _ _ (by omega)]
  have hlw : lst J 100 nw (g3 0).natAbs := by rw [hJ7]; exact hlstw (Int.natAbs_pos.mpr hg30)
  have hll : lst J 0 nl (g3 d).natAbs := (hlstl hlead.2).keep (fun j h1 h2 => by rw [hJ7, hout7 j (by omega), e6, u2_off _ _ (by omega)])
  have hI17 : I8 m 17 = nI nl := by rw [e8, u2_ne _ _ (fun t => by omega), hoth7 m (by omega), e6, u2_self]
  have hI14 : I8 m 14 = nI nw := by rw [e8, u2_self]
  have hfr8 : FrF m I1 I8 := hfr3.f.trans ⟨fun y h1 h2 h3 => by rw [e8, u2_off _ _ h1, hoth7 y h3, e6, u2_off _ _ h1, hoth5 y h3], fun k h1 h2 h3 h4 h5 => by rw [e8, u2_ne _ _ (fun t => h2 t.2), hoth7 m (by omega), e6, u2_ne _ _ (fun t => h5 t.2), hoth5 m (by omega)]⟩
  have hp8 : PtS m I8 L7 c3 q3 n3 := hp3.keep (by rw [e8, u2_ne _ _ (fun t => by omega), hoth7 m (by omega), e6, u2_ne _ _ (fun t => by omega), hoth5 m (by omega)]) (by rw [e8, u2_off _ _ (by omega), hoth7 _ (by omega), e6, u2_off _ _ (by omega), hoth5 _ (by omega)]) (RU.refl m (fun _ => False) _) (fun _ _ h => h)
  -- tried without success
  obtain ⟨T, hT⟩ : ∃ T : Nat → Nat → PP → Prop, T = fun i k g' => ∀ a b, (a < i ∨ (a = i ∧ b < k)) → a < nl → b < 2 * nw → Nat.gcd (sgv J 100 b).natAbs (J a).toInt.natAbs = 1 → ¬ dv (lin (J a).toInt (sgv J 100 b)) g' := ⟨_, rfl⟩
  obtain ⟨St', hSt⟩ : ∃ St' : Nat → Nat → TI → TL → TA → Prop, St' = fun i k I' L' A' => ∃ c' q' n' g', FS f0 c' q' n' g' ∧ PtS m I' L' c' q' n' ∧ rp L' m 8 = g' ∧ dv g' g3 ∧ T i k g' ∧ RU m rT L L' ∧ FrF m I1 I' ∧ I' (m + 7) = J ∧ I' m 14 = nI nw ∧ I' m 17 = nI nl ∧ A' = A7 := ⟨_, rfl⟩
  unfold wp_X7_findFirst_72
  refine ⟨fun μ I' L' A' x => ∃ i, i + μ = nl ∧ x = nI i ∧ St' i 0 I' L' A', nl, ⟨0, by omega, rfl, ?_⟩, ?_⟩
  · rw [hSt]
    refine ⟨c3, q3, n3, g3, hfs3, hp8, hg3, dv.refl g3, ?_, hruA, hfr8, hJ.symm, hI14, hI17, rfl⟩
    rw [hT]; exact fun a b h => by omega
  rintro μ C hC I' L' A' _ ⟨i, hi, rfl, hst⟩
  have hst0 := hst
  rw [hSt] at hst0
  obtain ⟨c', q', n', g', g1, g2, gr, g4, g5, g6, g7, g8, g9, g10, g11⟩ := hst0
  refine ⟨hm.1, fun zz => ?_, fun zz => ?_⟩
  · rw [g10, ile, tI (by omega), tI (by omega)] at zz
    refine ⟨⟨c', q', n', g', g1, g2, gr, fun t ht w => ?_⟩, g6, g7, g11⟩
    -- every factor of degree 1 was tried
    obtain ⟨t1, ht1, htp, htpos, htd⟩ := prim_dv_ex ht w
    have hlinE := lin_of ht1.2
    have hd3' : dv t1 g3 := htd.trans g4
    have h1 : (t1 1).natAbs ∣ (g3 d).natAbs := Int.natAbs_dvd_natAbs.mpr (lead_dvd hd3' ht1 ⟨hd2, hd3⟩)
    have h2 : (t1 0).natAbs ∣ (g3 0).natAbs := Int.natAbs_dvd_natAbs.mpr (low_dvd hd3')
    obtain ⟨a, ha, hJa⟩ := hll.2 (t1 1).natAbs (by omega) h1
    obtain ⟨b, hb, hJb⟩ := hlw.sg (by omega) (Int.natAbs_pos.mpr hg30) h2
    rw [Nat.zero_add] at hJa
    have hle1 := Nat.le_of_dvd hlead.2 h1
    have hJa' : (J a).toInt = t1 1 := by rw [hJa, tI (by omega)]; omega
    rw [hT] at g5
    refine g5 a b (Or.inl (by omega)) ha hb ?_ (by rw [hJa', hJb, ← hlinE]; exact htd)
    rw [hJb, hJa']
    rcases Nat.lt_or_ge 1 (Nat.gcd (t1 0).natAbs (t1 1).natAbs) with y | y
    · obtain ⟨l, hl, hpl⟩ := pr_ex _ y
      exact absurd (fun k => by
        rw [hlinE]; unfold lin
        split
        · rw [← Int.natAbs_dvd_natAbs, Int.natAbs_natCast]; exact Nat.dvd_trans hl (Nat.gcd_dvd_left _ _)
        · split
          · rw [← Int.natAbs_dvd_natAbs, Int.natAbs_natCast]; exact Nat.dvd_trans hl (Nat.gcd_dvd_right _ _)
          · exact Int.dvd_zero _) (htp l hpl)
    · have : 0 < Nat.gcd (t1 0).natAbs (t1 1).natAbs := Nat.gcd_pos_of_pos_right _ (by omega)
      omega
  · rw [g10, ile, tI (by omega), tI (by omega)] at zz
    have hinl : i < nl := by omega
    clear g1 g2 gr g4 g5 g6 g7 g8 g9 g10 g11 c' q' n' g'
    unfold wp_X7_findFirst_83
    refine ⟨fun ν I'' L'' A'' x3 x4 => ∃ k, k + ν = 2 * nw ∧ x3 = nI i ∧ x4 = nI k ∧ St' i k I'' L'' A'', 2 * nw, ⟨0, by omega, rfl, rfl, hst⟩, ?_⟩
    rintro ν C' hC' I2' L2' A2' _ _ ⟨k, hk, rfl, rfl, hst2⟩
    rw [hSt] at hst2
    obtain ⟨c', q', n', g', g1, g2, gr, g4, g5, g6, g7, g8, g9, g10, g11⟩ := hst2
    have h2nw : ((2 : Int32) * nI nw).toInt = ((2 * nw : Nat) : Int) := by
      rw [Int32.toInt_mul, tI (by omega), show (2 : Int32).toInt = 2 from by decide]
      exact (Int.bmod_eq_of_le (by omega) (by omega)).trans (by omega)
    refine ⟨hm.1, fun y v2 ev2 => ?_, fun y => ?_⟩
    · rw [g9, ile, h2nw, tI (by omega)] at y
      refine hC (μ - 1) _ _ _ _ (by omega) ⟨i + 1, by omega, by rw [ev2, sI], ?_⟩
      rw [hSt]
      refine ⟨c', q', n', g', g1, g2, gr, g4, ?_, g6, g7, g8, g9, g10, g11⟩
      rw [hT] at g5 ⊢
      exact fun a b h h1 h2 h3 => g5 a b (by omega) h1 h2 h3
    · rw [g9, ile, h2nw, tI (by omega)] at y
      have hkn : k < 2 * nw := by omega
      -- going on with the next one
      have next : ∀ (I3' : TI) (L3' : TL) (A3' : TA), (∃ c'' q'' n'' g'', FS f0 c'' q'' n'' g'' ∧ PtS m I3' L3' c'' q'' n'' ∧ rp L3' m 8 = g'' ∧ dv g'' g' ∧ (Nat.gcd (sgv J 100 k).natAbs (J i).toInt.natAbs = 1 → ¬ dv (lin (J i).toInt (sgv J 100 k)) g'')) → RU m rT L L3' → FrI m I2' I3' → A3' = A2' → ∀ v : Int32, v = nI k + 1 → C' I3' L3' A3' (nI i) v := by
        intro I3' L3' A3' ⟨c'', q'', n'', g'', p1, p2, p3, p4, p5⟩ p6 p7 p8 v hv
        refine hC' (ν - 1) _ _ _ _ _ (by omega) ⟨k + 1, by omega, rfl, by rw [hv, sI], ?_⟩
        rw [hSt]
        refine ⟨c'', q'', n'', g'', p1, p2, p3, p4.trans g4, ?_, p6, g7.trans p7.f, by rw [p7.1 _ (by omega) (by omega)]; exact g8, by rw [p7.2 _ (by omega)]; exact g9, by rw [p7.2 _ (by omega)]; exact g10, p8.trans g11⟩
        rw [hT] at g5 ⊢
        intro a b h h1 h2 h3
        by_cases w : a = i ∧ b = k
        · rw [w.1, w.2] at h3 ⊢; exact p5 h3
        · exact fun z => g5 a b (by omega) h1 h2 h3 (z.trans p4)
      refine ⟨_, m_clear hm (show 10 < 30 by omega), ?_⟩
      rintro I4' L4' A4' ⟨hz4, hru4, rfl, rfl⟩
      have h100 : ((100 : Int32) + nI k / 2).toInt = ((100 + k / 2 : Nat) : Int) := by
        rw [idiv2 (by omega), iadd (by rw [tI (by omega), li100]; omega) (by rw [tI (by omega), li100]; omega), tI (by omega), li100]; omega
      obtain ⟨dv', hdv1, hdv2, -, hdv3⟩ := hlw.val (by omega) (Int.natAbs_pos.mpr hg30) (show k / 2 < nw by omega)
      refine ⟨⟨600, hm.2.2.2.2.2.2.2.1, inOf h100 (by omega)⟩, ?_⟩
      rw [ix_of h100, g8]
      refine ⟨_, m_signed (k := k) (by omega) (by rw [hdv3]; omega), ?_⟩
      rintro sv I5' L5' A5' ⟨hsv, rfl, rfl, rfl⟩
      have hsv' : sv.toInt = sgv J 100 k := hsv
      refine ⟨rok hm (show 10 < 30 by omega) (show 0 < 8 by omega) li80, fun L16 e16 => ⟨⟨600, hm.2.2.2.2.2.2.2.1, inOf (tI (by omega)) (show i < 600 by omega)⟩, rok hm (show 10 < 30 by omega) (show 1 < 8 by omega) li81, fun L19 e19 => ⟨rok hm (show 10 < 30 by omega) (show 0 < 8 by omega) li80, rok hm (show 10 < 30 by omega) (show 1 < 8 by omega) li81, ?_⟩⟩⟩
      rw [ix_of li80] at e16
      rw [ix_of li81, ixn (by omega), g8] at e19
      have hlin := row_lin hz4 e16 e19
      rw [Int32.toInt_toInt64, Int32.toInt_toInt64, hsv'] at hlin
      have hru19 : RU m (· = 10) L2' L19 := (hru4.trans (ru_row (by omega) e16)).trans (ru_row (by omega) e19)
      obtain ⟨du, hdu1, hdu2, -, hdu3⟩ := hll.val (by omega) hlead.2 hinl
      rw [Nat.zero_add] at hdu3
      have hsb := hlw.sgb (by omega) (Int.natAbs_pos.mpr hg30) hkn
      have hv80 : (L19 (m + 1) (ix 80)).toInt = sgv J 100 k := by
        rw [ix_of li80, ← rp_lt (by omega), hlin]; rfl
      have hv81 : (L19 (m + 1) (ix 81)).toInt = (J i).toInt := by
        rw [ix_of li81, ← rp_lt (by omega), hlin]; rfl
      refine ⟨_, m_gcd (by rw [hv80]; omega) (by rw [hv81, hdu3]; omega), ?_⟩
      rintro gv I6' L6' A6' ⟨hgv, rfl, rfl, rfl⟩
      rw [hv80, hv81] at hgv
      have hp6 : PtS m I6' L6' c' q' n' := g2.keep rfl rfl hru19 (fun i hi => by omega)
      have hg6 : rp L6' m 8 = g' := (hru19.same (show ¬ 8 = 10 by omega)).trans gr
      have hruB : RU m rT L L6' := g6.trans (hru19.mono r10)
      have hc6' := g2.2.1
      have hgv1 : gv = 1 ↔ Nat.gcd (sgv J 100 k).natAbs (J i).toInt.natAbs = 1 := by
        rw [← Int64.toInt_inj, hgv, show (1 : Int64).toInt = 1 from by decide]; omega
      have hte : dgI (lin (J i).toInt (sgv J 100 k)) 1 := lin_dg (by rw [hdu3]; omega)
      have hok := ok_lin (t := lin (J i).toInt (sgv J 100 k)) hf g1.dvd (by show ((J i).toInt).natAbs ≤ 300; rw [hdu3]; omega) (by show (sgv J 100 k).natAbs ≤ 300; omega)
      refine ⟨fun w => ?_, fun w v ev => next _ _ _ ⟨c', q', n', g', g1, hp6, hg6, dv.refl g', fun h => absurd (hgv1.mpr h) w⟩ hruB (FrI.refl _ _) rfl v ev⟩
      have hgc := hgv1.mp w
      refine ⟨_, m_isRoot hm hlin hg6 g1.2.1 hte (by decide) (hok g' (dv.refl g') g1.1 g1.2.1).2.1 (fun s h1 h2 h3 => (hok s h1 h2 h3).2.2), ?_⟩
      rintro rv I7' L7' A7' ⟨hrv, hru7, rfl, rfl⟩
      have hp7 : PtS m I7' L7' c' q' n' := hp6.keep rfl rfl hru7 (fun i hi => by omega)
      have hg7 : rp L7' m 8 = g' := (hru7.same (show ¬ (8 = 9 ∨ 8 = 11) by omega)).trans hg6
      have hlin7 : rp L7' m 10 = _ := (hru7.same (show ¬ (10 = 9 ∨ 10 = 11) by omega)).trans hlin
      have hruC : RU m rT L L7' := hruB.trans (hru7.mono r911)
      refine ⟨fun w2 v ev => next _ _ _ ⟨c', q', n', g', g1, hp7, hg7, dv.refl g', fun _ => way0 hrv w2⟩ hruC (FrI.refl _ _) rfl v ev, fun w2 => ?_⟩
      refine ⟨_, m_takeOut hm hp7 hlin7 hg7 g1.2.1 hte (by decide) (fun u => g1.fin hs7 hte (by decide) u) hok, ?_⟩
      rintro I9 L9 A9 ⟨⟨k9, g9', hgk9, hgf9, hg9, hnd9, hcase9⟩, -, hru9, hfr9, rfl⟩ v ev
      refine next _ _ _ ?_ (hruC.trans (hru9.mono (hc12 c' hc6'))) hfr9 rfl v ev
      have hd9 : dv g9' g' := ⟨pw _ k9, pw_pf hte.pf k9, by rw [hgk9]; funext j; rw [pm_comm]⟩
      rcases hcase9 with ⟨hk9, -, hpt9, -⟩ | ⟨hk9, hpt9, hdv9⟩
      · subst hk9
        have : g9' = g' := by rw [hgk9]; show g9' = pm (pk0 1) g9'; rw [pm_1l]
        exact ⟨c', q', n', g9', by rw [this]; exact g1, hpt9, hg9, hd9, fun _ => hnd9⟩
      · exact ⟨_, _, _, g9', g1.step (deg1_irr hte (lin_prim hgc)) ⟨1, hte, by show 0 < (J i).toInt; rw [hdu3]; omega⟩ hgk9 hgf9 hk9 hnd9 hdv9, hpt9, hg9, hd9, fun _ => hnd9⟩
end
