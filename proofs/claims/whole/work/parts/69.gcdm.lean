/-! RESIDUES: findCommon, by Euclid -/
section
variable {K : Cx} {I : TI} {L : TL} {A : TA}
theorem RowN.zero {r d : Nat} (h : RowN I L r d) (hz : dl (pl L r) 0) : d = 0 := by
  rcases d with _ | e
  · rfl
  · exact absurd (hz e (Nat.zero_le e)) (h.2 e rfl)
set_option maxHeartbeats 1000000 in
/-- findCommon(out, a, b) -/
theorem s_findCommon {o out a b da db p : Nat} (ho : isX3 K o) (h : isRow K out) (ha : isRow K a) (hb : isRow K b) (h1 : out ≠ o + 2) (h2 : out ≠ o + 4) (ha2 : a ≠ o + 4) (hb1 : b ≠ o + 2) (hp : mdl L o = p) (hP : Pm p) (ra : rsd p (pl L a)) (rb : rsd p (pl L b)) (na : RowN I L a da) (nb : RowN I L b db) :
    ConV K yX3_findCommon wsX3_findCommon 3 65 I L A [.ref o, .ref out, .ref a, .ref b] (fun I' L' A' => GcdM p (pl L' out) (pl L a) (pl L b) ∧ rsd p (pl L' out) ∧ (∃ d, RowN I' L' out d ∧ (∀ e, d = e + 1 → pl L' out e = 1) ∧ (d = 0 → da = 0 ∧ db = 0)) ∧ ChR (fun x => x = o + 2 ∨ x = o + 4 ∨ x = out) I I' L L' ∧ A' = A) := by
  have hp1 := hP.1.1
  have hp2 := hP.2
  have o24 : o + 2 ≠ o + 4 := by omega
  have hS : ∀ x, (x = o + 2 ∨ x = o + 4 ∨ x = out) → isRow K x := fun x hx => by
    rcases hx with rfl | rfl | rfl
    · exact ho.2.1
    · exact ho.2.2.1
    · exact h
  apply w_X3_findCommon
  unfold wp_X3_findCommon
  refine ⟨ho.1, ho.2.1.1, _, s_become ho.2.1 ha, ?_⟩
  rintro I1 L1 A1 ⟨rfl, rfl, hA1⟩
  have c1 : ChR (· = o + 2) I (u2 I (o + 2) 1 (I a 1)) L (us L (o + 2 + 1) (L (a + 1))) := become_ch
  have nb1 : RowN (u2 I (o + 2) 1 (I a 1)) (us L (o + 2 + 1) (L (a + 1))) b db := nb.ch c1 hb1
  refine ⟨ho.2.2.1.1, _, s_become ho.2.2.1 hb, ?_⟩
  rintro I2 L2 A2 ⟨hI2, hL2, hA2⟩
  have c2 : ChR (· = o + 4) (u2 I (o + 2) 1 (I a 1)) I2 (us L (o + 2 + 1) (L (a + 1))) L2 := by rw [hI2, hL2]; exact become_ch
  have cc : ChR (fun x => x = o + 2 ∨ x = o + 4 ∨ x = out) I I2 L L2 := (c1.mono (fun _ h => Or.inl h)).trans (c2.mono (fun _ h => Or.inr (Or.inl h)))
  have e2 : L2 (o + 2 + 1) = L (a + 1) := by rw [hL2, us_ne _ _ (by omega), us_self]
  have e4 : L2 (o + 4 + 1) = L (b + 1) := by rw [hL2, us_self, us_ne _ _ (by omega)]
  have i2 : I2 (o + 2) 1 = I a 1 := by rw [hI2, u2_ne _ _ (fun t => o24 t.1), u2_self]
  have i4 : I2 (o + 4) 1 = I b 1 := by rw [hI2, u2_self, u2_ne _ _ (fun t => hb1 t.1)]
  have p2 : pl L2 (o + 2) = pl L a := by unfold pl; rw [e2]
  have p4 : pl L2 (o + 4) = pl L b := by unfold pl; rw [e4]
  have n2 : RowN I2 L2 (o + 2) da := ⟨⟨by rw [i2]; exact na.1.1, na.1.2.1, by rw [e2]; exact na.1.2.2⟩, by rw [p2]; exact na.2⟩
  have n4 : RowN I2 L2 (o + 4) db := ⟨⟨by rw [i4]; exact nb.1.1, nb.1.2.1, by rw [e4]; exact nb.1.2.2⟩, by rw [p4]; exact nb.2⟩
  have hdb := nb.1.2.1
  unfold wp_X3_findCommon_27
  refine ⟨fun μ I' L' A' hi lo n => ∃ (i dh dl' : Nat), i + μ = 14 ∧ n = nI i ∧ i + dl' ≤ 13 ∧ ((hi = o + 2 ∧ lo = o + 4) ∨ (hi = o + 4 ∧ lo = o + 2)) ∧ RowN I' L' hi dh ∧ RowN I' L' lo dl' ∧ rsd p (pl L' hi) ∧ rsd p (pl L' lo) ∧ SameI p (pl L' hi) (pl L' lo) (pl L a) (pl L b) ∧ ChR (fun x => x = o + 2 ∨ x = o + 4 ∨ x = out) I I' L L' ∧ (dh = 0 → dl' = 0 → da = 0 ∧ db = 0) ∧ A' = A, 14, ⟨0, da, db, rfl, rfl, by omega, Or.inl ⟨rfl, rfl⟩, n2, n4, by rw [p2]; exact ra, by rw [p4]; exact rb, by rw [p2, p4]; exact SameI.start _ _ _, cc, fun x y => ⟨x, y⟩, hA2.trans hA1⟩, ?_⟩
  rintro μ C hC I' L' A' hi lo _ ⟨i, dh, dl', hi14, rfl, hid, hor, nh, nl, rh, rl, hsame, hc, hz, hA⟩
  have hih : isRow K hi := by
    rcases hor with ⟨x, -⟩ | ⟨x, -⟩
    · rw [x]; exact ho.2.1
    · rw [x]; exact ho.2.2.1
  have hil : isRow K lo := by
    rcases hor with ⟨-, x⟩ | ⟨-, x⟩
    · rw [x]; exact ho.2.2.1
    · rw [x]; exact ho.2.1
  have hne : hi ≠ lo := by rcases hor with ⟨x, y⟩ | ⟨x, y⟩ <;> omega
  have hho : out ≠ hi := by rcases hor with ⟨x, y⟩ | ⟨x, y⟩ <;> omega
  have hsh : ∀ x, x = hi → x = o + 2 ∨ x = o + 4 ∨ x = out := fun x e => by rcases hor with ⟨y, -⟩ | ⟨y, -⟩ <;> omega
  have hsl : ∀ x, x = lo → x = o + 2 ∨ x = o + 4 ∨ x = out := fun x e => by rcases hor with ⟨-, y⟩ | ⟨-, y⟩ <;> omega
  have hmo : mdl L' o = p := by unfold mdl; rw [mdl_ch ho.1 hS hc]; exact hp
  have hdl13 := nl.1.2.1
  -- the end: low is 0
  have fin : dl' = 0 → wp_X3_findCommon_74 K o out a b I' L' A' hi (fun I' L' A' => GcdM p (pl L' out) (pl L a) (pl L b) ∧ rsd p (pl L' out) ∧ (∃ d, RowN I' L' out d ∧ (∀ e, d = e + 1 → pl L' out e = 1) ∧ (d = 0 → da = 0 ∧ db = 0)) ∧ ChR (fun x => x = o + 2 ∨ x = o + 4 ∨ x = out) I I' L L' ∧ A' = A) := by
    intro hl0
    unfold wp_X3_findCommon_74
    refine ⟨ho.1, _, s_makeMonic ho.1 hih hmo hP rh nh, ?_⟩
    rintro I4 L4 A4 ⟨⟨c, c', hcc, hcg⟩, hrs, hrn, hone, hc4, hA4⟩
    refine ⟨h.1, _, s_become h hih, ?_⟩
    rintro I5 L5 A5 ⟨rfl, rfl, hA5⟩
    have hpl : pl (us L4 (out + 1) (L4 (hi + 1))) out = pl L4 hi := by unfold pl; rw [us_self]
    have hal : al (p : Int) (pl L' lo) := fun k => by
      rw [nl.1.dl k (by omega)]; exact Int.dvd_zero _
    refine ⟨by rw [hpl]; exact hsame.fin hal hcg hcc, by rw [hpl]; exact hrs, ⟨dh, ⟨⟨by rw [u2_self]; exact hrn.1.1, hrn.1.2.1, by rw [us_self]; exact hrn.1.2.2⟩, by rw [hpl]; exact hrn.2⟩, by rw [hpl]; exact hone, fun x => hz x hl0⟩, (hc.trans (hc4.mono hsh)).trans (ChR.mono become_ch (fun x e => Or.inr (Or.inr e))), by rw [hA5, hA4, hA]⟩
  refine ⟨fun q => fin ?_, fun q => ⟨hil.1, fun q2 => fin ?_, fun q2 => ?_⟩⟩
  · rw [ilt, li13, tI (by omega)] at q; omega
  · rw [nl.1.1, tp_lt0 (by omega)] at q2; exact q2
  · rw [nl.1.1, tp_lt0 (by omega)] at q2
    rw [ilt, li13, tI (by omega)] at q
    obtain ⟨e, rfl⟩ : ∃ e, dl' = e + 1 := ⟨dl' - 1, by omega⟩
    refine ⟨ho.1, _, s_makeMonic ho.1 hil hmo hP rl nl, ?_⟩
    rintro I4 L4 A4 ⟨⟨c, c', hcc, hcg⟩, hrs, hrn, hone, hc4, hA4⟩
    have hc5 := hc.trans (hc4.mono hsl)
    have hph : pl L4 hi = pl L' hi := pl_keep (hc4.l hne)
    have hmo4 : mdl L4 o = p := by unfold mdl; rw [mdl_ch ho.1 hS hc5]; exact hp
    refine ⟨_, s_takeRest ho.1 hih hil hne hmo4 (by omega) hp2 (by rw [hph]; exact rh) hrs ((nh.ch hc4 hne).1) hrn.1 (hone e rfl), ?_⟩
    rintro I6 L6 A6 ⟨⟨q', hq', hcr⟩, hr6, hd6, ⟨d6, hn6⟩, hc6, hA6⟩ v25 e25
    have hlo6 : pl L6 lo = pl L4 lo := pl_keep (hc6.l hne.symm)
    have hd6e : d6 ≤ e := by
      rcases d6 with _ | x
      · omega
      · have := (hn6.dg).lt hd6; omega
    rw [hph] at hcr
    refine hC (μ - 1) _ _ _ _ _ _ (by omega) ⟨i + 1, e + 1, d6, by omega, by rw [e25, sI], by omega, hor.symm.imp (fun t => ⟨t.2, t.1⟩) (fun t => ⟨t.2, t.1⟩), hrn.ch hc6 hne.symm, hn6, by rw [hlo6]; exact hrs, hr6, ?_, hc5.trans (hc6.mono hsh), fun x => absurd x (by omega), by rw [hA6, hA4, hA]⟩
    rw [hlo6]
    exact hsame.step hcg hcc hq' hcr
end
