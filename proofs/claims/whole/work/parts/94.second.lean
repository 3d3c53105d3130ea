/-! THE REFERENCE: prepare, trySecond -/
section
variable {K : Cx} {I : TI} {L : TL} {A : TA}
/-- what prepare and the lists leave of the ints -/
def FrL (m : Nat) (I I' : TI) : Prop := (∀ y, y ≠ m → y ≠ m + 7 → I' y = I y) ∧ ∀ k, k ≠ 14 → k ≠ 15 → k ≠ 16 → k ≠ 17 → I' m k = I m k
theorem FrL.f {m : Nat} {I' : TI} (h : FrL m I I') : FrF m I I' := ⟨fun y h1 _ h3 => h.1 y h1 h3, fun k _ h2 h3 h4 h5 => h.2 k h2 h3 h4 h5⟩
set_option maxHeartbeats 1000000 in
theorem m_prepare {m d : Nat} {g : PP} (hm : isX7 K m) (hg : rp L m 8 = g) (hgd : dgI g d) (hd7 : d < 7) (hb : ∀ k, (g k).natAbs ≤ 33350) (hl : (g d).natAbs ≤ 300) (h0 : (g 0).natAbs ≤ 300) (h00 : g 0 ≠ 0) (h1 : (val8 g 1).natAbs ≤ 10500) (h10 : val8 g 1 ≠ 0) (h2 : (val8 g (-1)).natAbs ≤ 10500) (h20 : val8 g (-1) ≠ 0) :
    ConV K yX7_prepare wsX7_prepare 1 28 I L A [.ref m, .int (nI 8)] (fun I' L' A' => (∃ nl nw no nm : Nat, nl ≤ 34 ∧ nw ≤ 34 ∧ no ≤ 200 ∧ nm ≤ 200 ∧ I' m 17 = nI nl ∧ I' m 14 = nI nw ∧ I' m 15 = nI no ∧ I' m 16 = nI nm ∧ lst (I' (m + 7)) 0 nl (g d).natAbs ∧ lst (I' (m + 7)) 100 nw (g 0).natAbs ∧ lst (I' (m + 7)) 200 no (val8 g 1).natAbs ∧ lst (I' (m + 7)) 400 nm (val8 g (-1)).natAbs) ∧ FrL m I I' ∧ L' = L ∧ A' = A) := by
  apply w_X7_prepare
  unfold wp_X7_prepare
  refine ⟨hm.1, _, m_degreeOf hm (show 8 < 30 by omega), ?_⟩
  rintro v I1 L1 A1 ⟨rfl, rfl, rfl, rfl⟩
  have hlen : lnP g 8 = d + 1 := lnP_of hgd.2 (fun x hx => by rw [show x = d by omega]; exact hgd.1) (by omega)
  rw [hg, hlen, tp_s]
  have hixd := rix (show 8 < 30 by omega) (show d < 8 by omega) (x := nI 8) rfl (tI (k := d) (by omega))
  have hvd : (L1 (m + 1) (ix (8 * nI 8 + nI d))).toInt = g d := by rw [ix_of hixd, ← rp_lt (by omega), hg]
  refine ⟨rok hm (show 8 < 30 by omega) (show d < 8 by omega) hixd, _, m_list (fr := 0) (V := (g d).natAbs) hm (by rw [hvd]) (by omega) (by omega), ?_⟩
  rintro v1 I2 L2 A2 ⟨⟨nl, rfl, -, hnl, hll, -, ho2⟩, hy2, rfl, rfl⟩ I3 e3
  have h8n : ((8 : Int32) * nI 8).toInt = ((8 * 8 + 0 : Nat) : Int) := by decide
  have hv0 : (L2 (m + 1) (ix (8 * nI 8))).toInt = g 0 := by rw [ix_of h8n, ← rp_lt (by omega), hg]
  refine ⟨rok hm (show 8 < 30 by omega) (show 0 < 8 by omega) h8n, _, m_list (fr := 100) (V := (g 0).natAbs) hm (by rw [hv0]) (by omega) (by omega), ?_⟩
  rintro v2 I4 L4 A4 ⟨⟨nw, rfl, -, hnw, hlw, -, ho4⟩, hy4, rfl, rfl⟩ I5 e5
  refine ⟨_, m_valueAt (M := 33350) (X := 1) hm (show 8 < 30 by omega) (by rw [hg]; exact hb) (by decide) (by decide), ?_⟩
  rintro v3 I6 L6 A6 ⟨hv3, rfl, rfl, rfl⟩
  rw [hg, li1] at hv3
  refine ⟨_, m_list (fr := 200) (V := (val8 g 1).natAbs) hm (by rw [hv3]) h1 (by omega), ?_⟩
  rintro v4 I7 L7 A7 ⟨⟨no, rfl, hno, -, hlo, -, ho7⟩, hy7, rfl, rfl⟩ I8 e8
  refine ⟨_, m_valueAt (M := 33350) (X := 1) hm (show 8 < 30 by omega) (by rw [hg]; exact hb) (by decide) (by decide), ?_⟩
  rintro v5 I9 L9 A9 ⟨hv5, rfl, rfl, rfl⟩
  rw [hg, lim1] at hv5
  refine ⟨_, m_list (fr := 400) (V := (val8 g (-1)).natAbs) hm (by rw [hv5]) h2 (by omega), ?_⟩
  rintro v6 I10 L10 A10 ⟨⟨nm, rfl, hnm, -, hlm, -, ho10⟩, hy10, rfl, rfl⟩ I11 e11
  have q11 : I11 (m + 7) = I10 (m + 7) := by rw [e11, u2_off _ _ (by omega)]
  have q8 : I9 (m + 7) = I7 (m + 7) := by rw [e8, u2_off _ _ (by omega)]
  have q5 : I6 (m + 7) = I4 (m + 7) := by rw [e5, u2_off _ _ (by omega)]
  have q3 : I3 (m + 7) = I2 (m + 7) := by rw [e3, u2_off _ _ (by omega)]
  have hnl' := hnl hl
  have hnw' := hnw h0
  have f10 : ∀ k, k ≠ 14 → k ≠ 15 → k ≠ 16 → k ≠ 17 → I11 m k = I1 m k := fun k a b c e => by
    rw [e11, u2_ne _ _ (fun t => c t.2), hy10 m (by omega), e8, u2_ne _ _ (fun t => b t.2), hy7 m (by omega), e5, u2_ne _ _ (fun t => a t.2), hy4 m (by omega), e3, u2_ne _ _ (fun t => e t.2), hy2 m (by omega)]
  refine ⟨⟨nl, nw, no, nm, hnl', hnw', hno, hnm, ?_, ?_, ?_, by rw [e11, u2_self], ?_, ?_, ?_, ?_⟩, ⟨fun y a b => ?_, f10⟩, rfl, rfl⟩
  · rw [e11, u2_ne _ _ (fun t => by omega), hy10 m (by omega), e8, u2_ne _ _ (fun t => by omega), hy7 m (by omega), e5, u2_ne _ _ (fun t => by omega), hy4 m (by omega), e3, u2_self]
  · rw [e11, u2_ne _ _ (fun t => by omega), hy10 m (by omega), e8, u2_ne _ _ (fun t => by omega), hy7 m (by omega), e5, u2_self]
  · rw [e11, u2_ne _ _ (fun t => by omega), hy10 m (by omega), e8, u2_self]
  · exact (hll (Int.natAbs_pos.mpr hgd.1)).keep (fun j a b => by rw [q11, ho10 j (by omega), q8, ho7 j (by omega), q5, ho4 j (by omega), q3])
  · exact (hlw (Int.natAbs_pos.mpr h00)).keep (fun j a b => by rw [q11, ho10 j (by omega), q8, ho7 j (by omega), q5])
  · exact (hlo (Int.natAbs_pos.mpr h10)).keep (fun j a b => by rw [q11, ho10 j (by omega), q8])
  · exact (hlm (Int.natAbs_pos.mpr h20)).keep (fun j a b => by rw [q11])
  · rw [e11, u2_off _ _ a, hy10 y b, e8, u2_off _ _ a, hy7 y b, e5, u2_off _ _ a, hy4 y b, e3, u2_off _ _ a, hy2 y b]
theorem row_quad {m : Nat} {L0 L1 L2 L3 : TL} {a b c : Int64} (h0 : rp L0 m 10 = p0) (e1 : L1 = u2 L0 (m + 1) (8 * 10 + 0) c) (e2 : L2 = u2 L1 (m + 1) (8 * 10 + 1) b) (e3 : L3 = u2 L2 (m + 1) (8 * 10 + 2) a) : rp L3 m 10 = quad a.toInt b.toInt c.toInt := funext fun k => by
  have h1 := row_lin h0 e1 e2
  unfold quad
  by_cases w : k < 8
  · rw [rp_lt w, e3]
    by_cases x : k = 2
    · subst x; rw [u2_self, if_neg (by omega), if_neg (by omega), if_pos rfl]
    · rw [u2_ne _ _ (fun t => x (by omega)), ← rp_lt w, h1]
      unfold lin
      by_cases y : k = 0
      · rw [if_pos y, if_pos y]
      · by_cases z : k = 1
        · rw [if_neg y, if_neg y, if_pos z, if_pos z]
        · rw [if_neg y, if_neg y, if_neg z, if_neg z, if_neg x]
  · rw [rp, if_neg w, if_neg (by omega), if_neg (by omega), if_neg (by omega)]
theorem val_q1 (a b c : Int) : val8 (quad a b c) 1 = a + b + c := by rw [val_1]; simp only [quad]; simp; omega
theorem val_qn (a b c : Int) : val8 (quad a b c) (-1) = a - b + c := by rw [val_n1]; simp only [quad]; simp; omega
set_option maxHeartbeats 2000000 in
theorem m_trySecond {m c : Nat} {f0 g : PP} {q : Nat → PP} {n : Nat → Nat} {a cc one : Int32} (hm : isX7 K m) (hf : body f0) (hfs : FS f0 c q n g) (hp : PtS m I L c q n) (hg : rp L m 8 = g) (hno : ∀ t, dgI t 1 → ¬ dv t g) (ha : 0 < a.toInt ∧ a.toInt ≤ 300) (hc : cc.toInt ≠ 0 ∧ cc.toInt.natAbs ≤ 300) (ho : one.toInt.natAbs ≤ 10500) (ho6 : (∃ d, dgI g d ∧ 6 ≤ d) → one.toInt.natAbs ≤ 2100) :
    ConV K yX7_trySecond wsX7_trySecond 4 96 I L A [.ref m, .int (nI 8), .int a, .int cc, .int one] (fun I' L' A' => (∃ c' q' n' g', FS f0 c' q' n' g' ∧ PtS m I' L' c' q' n' ∧ rp L' m 8 = g' ∧ dv g' g ∧ (prim (quad a.toInt (one.toInt - a.toInt - cc.toInt) cc.toInt) → ¬ dv (quad a.toInt (one.toInt - a.toInt - cc.toInt) cc.toInt) g')) ∧ RU m rT L L' ∧ FrI m I I' ∧ A' = A) := by
  obtain ⟨b, hb⟩ : ∃ b : Int, b = one.toInt - a.toInt - cc.toInt := ⟨_, rfl⟩
  rw [← hb]
  have hgb := body_bd hf hfs.1 hfs.dvd
  have hg8 : dl g 8 := dl_mono hgb.1 (by omega)
  have hvals := body_val hf hfs.1 hfs.dvd
  have hnr := no_root hfs.1 hg8 hno
  have hte : dgI (quad a.toInt b cc.toInt) 2 := quad_dg (by omega)
  have ht8 : dl (quad a.toInt b cc.toInt) 8 := dl_mono hte.2 (by omega)
  -- nothing taken out
  have stay : ∀ (I' : TI) (L' : TL) (A' : TA), PtS m I' L' c q n → rp L' m 8 = g → (prim (quad a.toInt b cc.toInt) → ¬ dv (quad a.toInt b cc.toInt) g) → RU m rT L L' → FrI m I I' → A' = A → (∃ c' q' n' g', FS f0 c' q' n' g' ∧ PtS m I' L' c' q' n' ∧ rp L' m 8 = g' ∧ dv g' g ∧ (prim (quad a.toInt b cc.toInt) → ¬ dv (quad a.toInt b cc.toInt) g')) ∧ RU m rT L L' ∧ FrI m I I' ∧ A' = A := fun I' L' A' h1 h2 h3 h4 h5 h6 => ⟨⟨c, q, n, g, hfs, h1, h2, dv.refl g, h3⟩, h4, h5, h6⟩
  apply w_X7_trySecond
  unfold wp_X7_trySecond
  intro v1 e1 v2 e2
  have h1a : (one - a).toInt = one.toInt - a.toInt := isub (by omega) (by omega)
  have h1 : v1.toInt = b := by rw [e1, isub (by rw [h1a]; omega) (by rw [h1a]; omega), h1a, hb]
  have h2a : (a - v1).toInt = a.toInt - b := by rw [isub (by rw [h1]; omega) (by rw [h1]; omega), h1]
  have h2 : v2.toInt = a.toInt - b + cc.toInt := by rw [e2, iadd (by rw [h2a]; omega) (by rw [h2a]; omega), h2a]
  have i0 : ∀ x : Int32, x = 0 ↔ x.toInt = 0 := fun x => by rw [← Int32.toInt_inj]; rfl
  have hvd : dv (quad a.toInt b cc.toInt) g → (a.toInt - b + cc.toInt) ∣ val8 g (-1) := fun w => by
    have := val8_dvd (-1) w hte.pf ht8 hg8
    rw [val_qn] at this; exact this
  refine ⟨fun z => stay _ _ _ hp hg (fun _ w => ?_) (RU.refl _ _ _) (FrI.refl _ _) rfl, fun z => ⟨hm.1, _, m_valueAt (M := 33350) (X := 1) hm (show 8 < 30 by omega) (by rw [hg]; exact hgb.2.1) (by decide) (by decide), ?_⟩⟩
  · rw [i0, h2] at z
    have := hvd w
    rw [z] at this
    exact hnr (-1) (Int.zero_dvd.mp this)
  rintro r9 I1 L1 A1 ⟨hr9, rfl, rfl, rfl⟩
  rw [hg, lim1] at hr9
  have hv20 : a.toInt - b + cc.toInt ≠ 0 := fun w => z ((i0 v2).mpr (by rw [h2]; exact w))
  have hrem : (r9 - r9 / Int32.toInt64 v2 * Int32.toInt64 v2).toInt = (val8 g (-1)).tmod (a.toInt - b + cc.toInt) := by rw [jrem _ _ (by rw [hr9]; omega), hr9, Int32.toInt_toInt64, h2]
  refine ⟨fun w => hv20 (by rw [j0, Int32.toInt_toInt64, h2] at w; exact w), fun z2 => ⟨_, m_clear hm (show 10 < 30 by omega), ?_⟩, fun z2 => stay _ _ _ hp hg (fun _ w => z2 ?_) (RU.refl _ _ _) (FrI.refl _ _) rfl⟩
  rotate_left
  · rw [j0, hrem]; exact Int.tmod_eq_zero_of_dvd (hvd w)
  rw [j0, hrem] at z2
  have hvv : (a.toInt - b + cc.toInt).natAbs ≤ (val8 g (-1)).natAbs := Nat.le_of_dvd (Int.natAbs_pos.mpr (hnr (-1))) (Int.natAbs_dvd_natAbs.mpr (Int.dvd_of_tmod_eq_zero z2))
  have hbb : b.natAbs ≤ 10500 := by omega
  have hb6 : (∃ d, dgI g d ∧ 6 ≤ d) → b.natAbs ≤ 2100 := fun w => by
    have h3 := ho6 w
    obtain ⟨d, hd, hd6⟩ := w
    have h4 := (val_6 hgb.1 (hgb.2.2 d hd hd6)).2
    omega
  rintro I2 L2 A2 ⟨hz2, hru2, rfl, rfl⟩
  refine ⟨rok hm (show 10 < 30 by omega) (show 0 < 8 by omega) li80, fun L17 e17 => ⟨rok hm (show 10 < 30 by omega) (show 1 < 8 by omega) li81, fun L19 e19 => ⟨rok hm (show 10 < 30 by omega) (show 2 < 8 by omega) li82, fun L21 e21 => ?_⟩⟩⟩
  rw [ix_of li80] at e17
  rw [ix_of li81] at e19
  rw [ix_of li82] at e21
  have h10 := row_quad hz2 e17 e19 e21
  rw [Int32.toInt_toInt64, Int32.toInt_toInt64, Int32.toInt_toInt64, h1] at h10
  have hru21 : RU m (· = 10) L1 L21 := ((hru2.trans (ru_row (by omega) e17)).trans (ru_row (by omega) e19)).trans (ru_row (by omega) e21)
  have hp21 : PtS m I2 L21 c q n := hp.keep rfl rfl hru21 (fun i hi => by omega)
  have hg21 : rp L21 m 8 = g := (hru21.same (show ¬ 8 = 10 by omega)).trans hg
  have r10 : ∀ s : Nat, s = 10 → rT s := fun s h => by show 8 ≤ s ∧ s < 20; omega
  refine ⟨_, m_gcd (by rw [Int32.toInt_toInt64]; omega) (by rw [Int32.toInt_toInt64, h1]; omega), ?_⟩
  rintro r27 I3 L3 A3 ⟨h27, rfl, rfl, rfl⟩
  rw [Int32.toInt_toInt64, Int32.toInt_toInt64, h1] at h27
  have hg27 : Nat.gcd a.toInt.natAbs b.natAbs ≤ 300 := by
    have := Nat.le_of_dvd (show 0 < a.toInt.natAbs by omega) (Nat.gcd_dvd_left a.toInt.natAbs b.natAbs)
    omega
  refine ⟨_, m_gcd (by rw [h27]; omega) (by rw [Int32.toInt_toInt64]; omega), ?_⟩
  rintro r33 I4 L4 A4 ⟨h33, rfl, rfl, rfl⟩
  rw [h27, Int32.toInt_toInt64, Int.natAbs_natCast] at h33
  have h331 : r33 = 1 ↔ Nat.gcd (Nat.gcd a.toInt.natAbs b.natAbs) cc.toInt.natAbs = 1 := by
    rw [← Int64.toInt_inj, h33, show (1 : Int64).toInt = 1 from by decide]; omega
  refine ⟨fun w => ?_, fun w => stay _ _ _ hp21 hg21 (fun hpr => absurd (h331.mpr (prim_quad (by omega) hpr)) w) (hru21.mono r10) (FrI.refl _ _) rfl⟩
  have hprm := quad_prim (h331.mp w)
  have hok : ∀ g', dv g' g → Pf g' → g' ≠ p0 → dl g' 8 ∧ dOK (quad a.toInt b cc.toInt) 2 g' ∧ ∀ k, (quad a.toInt b cc.toInt 2 * g' k).natAbs < 9223372036854775808 := fun g' k1 k2 k3 => by
    have kb := body_bd hf k2 (k1.trans hfs.dvd)
    refine ⟨dl_mono kb.1 (by omega), dOK_quad hf k2 k3 (k1.trans hfs.dvd) hc.2 hc.1 hbb (fun ⟨d, hd, hd6⟩ => hb6 ?_), fun k => ?_⟩
    · obtain ⟨dg', hdg'⟩ := hfs.1.dg hfs.2.1
      exact ⟨dg', hdg', by have := k1.le hd hdg'; omega⟩
    · have := mul_ab (show (quad a.toInt b cc.toInt 2).natAbs ≤ 300 by show a.toInt.natAbs ≤ 300; omega) (kb.2.1 k)
      omega
  refine ⟨_, m_takeOut hm hp21 h10 hg21 hfs.2.1 hte (by decide) (fun u => hfs.fin hf.1.1 hte (by decide) u) hok, ?_⟩
  rintro I5 L5 A5 ⟨⟨k5, g5, hgk, hgf, hg5, hnd, hcase⟩, -, hru5, hfr5, rfl⟩
  have hc6 := hp.2.1
  refine ⟨?_, (hru21.mono r10).trans (hru5.mono (fun s h => by show 8 ≤ s ∧ s < 20; omega)), hfr5, rfl⟩
  have hd5 : dv g5 g := ⟨pw _ k5, pw_pf hte.pf k5, by rw [hgk]; funext j; rw [pm_comm]⟩
  rcases hcase with ⟨hk5, -, hpt5, -⟩ | ⟨hk5, hpt5, hdv5⟩
  · subst hk5
    have : g5 = g := by rw [hgk]; show g5 = pm (pk0 1) g5; rw [pm_1l]
    exact ⟨c, q, n, g5, by rw [this]; exact hfs, hpt5, hg5, hd5, fun _ => hnd⟩
  · exact ⟨_, _, _, g5, hfs.step (irr_23 hte (by decide) (by decide) hprm (fun s hs w => hno s hs (w.trans hdv5))) ⟨2, hte, ha.1⟩ hgk hgf hk5 hnd hdv5, hpt5, hg5, hd5, fun _ => hnd⟩
end
