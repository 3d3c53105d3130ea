/-! THE REFERENCE: common -/
section
variable {K : Cx} {I : TI} {L : TL} {A : TA}
theorem pp_body {f f0 : PP} (hs : sm7 f) (h0 : f ≠ p0) (h : ppA f f0) : body f0 := by
  rcases h with ⟨z, -⟩ | ⟨-, hpr, c', d', hc0, hco, hd', hp'⟩
  · exact absurd z h0
  · refine ⟨⟨fun k hk => ?_, fun k => ?_⟩, hpr, d', hd', hp'⟩
    · have := hs.1 k hk
      rw [hco] at this
      rcases Int.mul_eq_zero.mp this with w | w
      · exact absurd w hc0
      · exact w
    · have h1 := hs.2 k
      rw [hco] at h1
      have h2 : (f0 k).natAbs ≤ (c' * f0 k).natAbs := by
        rw [Int.natAbs_mul]; exact Nat.le_mul_of_pos_left _ (Int.natAbs_pos.mpr hc0)
      have h3 : pc c' f0 k = c' * f0 k := rfl
      rw [h3] at h1
      omega
def FrC (m : Nat) (I I' : TI) : Prop := (∀ y, y ≠ m → y ≠ m + 2 → y ≠ m + 3 → y ≠ m + 7 → I' y = I y) ∧ ∀ k, k ≠ 2 → k ≠ 3 → k ≠ 6 → k ≠ 14 → k ≠ 15 → k ≠ 16 → k ≠ 17 → I' m k = I m k
theorem FrC.refl (m : Nat) (I : TI) : FrC m I I := ⟨fun _ _ _ _ _ => rfl, fun _ _ _ _ _ _ _ _ => rfl⟩
theorem FrC.trans {m : Nat} {I' I'' : TI} (h : FrC m I I') (h' : FrC m I' I'') : FrC m I I'' := ⟨fun y h1 h2 h3 h4 => (h'.1 y h1 h2 h3 h4).trans (h.1 y h1 h2 h3 h4), fun k h1 h2 h3 h4 h5 h6 h7 => (h'.2 k h1 h2 h3 h4 h5 h6 h7).trans (h.2 k h1 h2 h3 h4 h5 h6 h7)⟩
theorem FrT.c {m : Nat} {I' : TI} (h : FrT m I I') : FrC m I I' := ⟨fun y h1 h2 _ h4 => h.1 y h1 h2 h4, fun k h1 _ h3 h4 h5 h6 h7 => h.2 k h1 h3 h4 h5 h6 h7⟩
theorem fr_c {m : Nat} {S : Nat → Prop} {I' : TI} {L' : TL} (h : FrC m (u2 I m 0 0) I') (h2 : RU m S L L') : FrM m I I' L L' := by
  refine ⟨fun y hy => ⟨?_, h2.1 y (by omega)⟩, ?_, ?_, ?_, ?_, ?_, ?_, h2.1 _ (by omega)⟩
  · rw [h.1 y (by omega) (by omega) (by omega) (by omega), u2_off _ _ (by omega)]
  · rw [h.2 0 (by omega) (by omega) (by omega) (by omega) (by omega) (by omega) (by omega), u2_self]
  · rw [h.2 7 (by omega) (by omega) (by omega) (by omega) (by omega) (by omega) (by omega), u2_ne _ _ (by omega)]
  · rw [h.2 8 (by omega) (by omega) (by omega) (by omega) (by omega) (by omega) (by omega), u2_ne _ _ (by omega)]
  · rw [h.2 11 (by omega) (by omega) (by omega) (by omega) (by omega) (by omega) (by omega), u2_ne _ _ (by omega)]
  · rw [h.1 (m + 5) (by omega) (by omega) (by omega) (by omega), u2_off _ _ (by omega)]
  · rw [h.1 (m + 6) (by omega) (by omega) (by omega) (by omega), u2_off _ _ (by omega)]
abbrev rC : Nat → Prop := fun s => 8 ≤ s
set_option maxHeartbeats 4000000 in
theorem m_common {m : Nat} {t a b : Int32} {P : Nat → PP} (hm : isX7 K m) (hs : RSlots m L P) : ConI K yX7_common wsX7_common 7 170 I L A [.ref m, .int t, .int a, .int b] (refP m (okS t ∧ okS a ∧ okS b) (fun v P' => comA P (ix t) (ix a) (ix b) v P') I L A) := by
  have rTC : ∀ s, rT s → rC s := fun s h => h.1
  have r8C : ∀ s : Nat, s = 8 → rC s := fun s h => by show 8 ≤ s; omega
  have noC : ∀ j, j < 8 → ¬ rC j := fun j hj h => by have : 8 ≤ j := h; omega
  have no : ¬ (okS t ∧ okS a ∧ okS b) → wp_X7_common_26 K m t a b I L A m (refP m (okS t ∧ okS a ∧ okS b) (fun v P' => comA P (ix t) (ix a) (ix b) v P') I L A) := by
    intro hn
    unfold wp_X7_common_26 wp_X7_common_27
    refine ⟨hm.1, _, m_refused hm (Or.inr rfl), ?_⟩
    rintro v I1 L1 A1 ⟨rfl, rfl, rfl, rfl⟩
    exact ⟨fun z => absurd z (by decide), fun _ => Or.inr ⟨hn, rfl, rfl, rfl⟩⟩
  apply w_X7_common
  unfold wp_X7_common
  refine ⟨_, m_isSlot, ?_⟩
  rintro v I1 L1 A1 ⟨h1, rfl, rfl, rfl⟩
  refine ⟨fun z => no (fun w => way0 h1 z w.1), fun z => ⟨_, m_isSlot, ?_⟩⟩
  have ht := way1 h1 z
  rintro v I1 L1 A1 ⟨h1, rfl, rfl, rfl⟩
  refine ⟨fun z => no (fun w => way0 h1 z w.2.1), fun z => ⟨_, m_isSlot, ?_⟩⟩
  have ha := way1 h1 z
  rintro v I1 L1 A1 ⟨h1, rfl, rfl, rfl⟩
  refine ⟨fun z => no (fun w => way0 h1 z w.2.2), fun z => ?_⟩
  have hb := way1 h1 z
  have hok : okS t ∧ okS a ∧ okS b := ⟨ht, ha, hb⟩
  clear no h1 z
  obtain ⟨t, ht8, rfl⟩ := okS_n ht
  obtain ⟨a, ha8, rfl⟩ := okS_n ha
  obtain ⟨b, hb8, rfl⟩ := okS_n hb
  rw [ixn (by omega), ixn (by omega), ixn (by omega)]
  unfold wp_X7_common_27
  refine ⟨hm.1, _, m_refused hm (Or.inl rfl), ?_⟩
  rintro v I2 L2 A2 ⟨rfl, rfl, rfl, rfl⟩
  obtain ⟨Q, hQ⟩ : ∃ Q, Q = refP m (okS (nI t) ∧ okS (nI a) ∧ okS (nI b)) (fun v P' => comA P t a b v P') I1 L2 A2 := ⟨_, rfl⟩
  rw [← hQ]
  -- the end
  have fin : ∀ (I3 : TI) (L3 : TL) (R : PP), rp L3 m 8 = R → RU m rC L2 L3 → FrC m (u2 I1 m 0 0) I3 → (∃ f g, ppA (P a) f ∧ ppA (P b) g ∧ ((f = p0 ∧ R = g) ∨ (f ≠ p0 ∧ g = p0 ∧ R = f) ∨ (f ≠ p0 ∧ g ≠ p0 ∧ Gcd R f g))) → ∃ P32 : Int32 → TI → TL → TA → Prop, ConI K yX7_finish wsX7_finish 1 23 I3 L3 A2 [.ref m, .int (nI t)] P32 ∧ ∀ (r37 : Int32) (I34 : TI) (L35 : TL) (A36 : TA), P32 r37 I34 L35 A36 → Q r37 I34 L35 A36 := by
    intro I3 L3 R hR hru hfr ⟨f, g, h1, h2, h3⟩
    refine ⟨_, m_finish hm (hs.ru hru noC) ht8, ?_⟩
    rintro v I4 L4 A4 ⟨⟨P', hk, hS⟩, hru4, rfl, rfl⟩
    rw [hR] at hk
    rw [hQ]
    have hru' : RU m (fun _ => True) L2 L4 := (hru.mono (fun _ _ => trivial)).trans (hru4.mono (fun _ _ => trivial))
    have hfm := fr_c hfr hru'
    exact Or.inl ⟨hok, ⟨P', ⟨f, g, R, h1, h2, h3, hk⟩, hS⟩, hfm.2.1, hfm, rfl⟩
  -- one of the two is 0
  have zero : ∀ s, s < 8 → (∀ R, ppA (P s) R → ∃ f g, ppA (P a) f ∧ ppA (P b) g ∧ ((f = p0 ∧ R = g) ∨ (f ≠ p0 ∧ g = p0 ∧ R = f) ∨ (f ≠ p0 ∧ g ≠ p0 ∧ Gcd R f g))) → wp_X7_common_67 K m (nI t) (nI a) (nI b) (u2 I1 m 0 0) L2 A2 (nI s) 8 m Q := by
    intro s hs8 hrel
    unfold wp_X7_common_67
    refine ⟨hm.1, _, m_copy (r := 8) (u := s) hm (by omega) (by omega), ?_⟩
    rintro I3 L3 A3 ⟨c3, ru3, rfl, rfl⟩
    rw [(hs s hs8).1] at c3
    have hsm := (hs s hs8).2
    refine ⟨hm.1, _, m_takeContent (r := 8) hm (by omega) (by rw [c3]; intro k; have := hsm.2 k; omega), ?_⟩
    rintro v I4 L4 A4 ⟨hv, hco, ru4, rfl, rfl⟩ I73 e73
    rw [c3] at hco
    have hpp : ppA (P s) (rp L4 m 8) := by
      by_cases w : P s = p0
      · refine Or.inl ⟨w, funext fun k => ?_⟩
        have h1 := hco k
        rw [w] at h1
        have h2 : (0 : Int) = (if cnt p0 = 0 then 1 else cnt p0) * rp L4 m 8 k := h1
        rcases Int.mul_eq_zero.mp h2.symm with x | x
        · split at x <;> omega
        · exact x
      · obtain ⟨e, he⟩ := Pf.dg (f := P s) ⟨7, hsm.1⟩ w
        have he7 := he.lt hsm.1
        have hln : lnP (P s) 8 = e + 1 := lnP_of he.2 (fun z hz => by rw [show z = e by omega]; exact he.1) (by omega)
        unfold cnt at hco
        rw [hln] at hco
        exact pp_of he hco
    exact fin _ _ _ rfl ((ru3.mono r8C).trans (ru4.mono r8C)) ⟨fun y h1 _ _ _ => by rw [e73, u2_off _ _ h1], fun k _ _ h3 _ _ _ _ => by rw [e73, u2_ne _ _ (by omega)]⟩ (hrel _ hpp)
  have pz : ppA p0 p0 := Or.inl ⟨rfl, rfl⟩
  have pne : ∀ s R, P s ≠ p0 → ppA (P s) R → R ≠ p0 := fun s R h1 h2 => by
    rcases h2 with ⟨z, -⟩ | ⟨-, -, _, _, _, _, hd, _⟩
    · exact absurd z h1
    · exact hd.ne
  have zero2 : (P a = p0 ∨ P b = p0) → wp_X7_common_51 K m (nI t) (nI a) (nI b) (u2 I1 m 0 0) L2 A2 Q := by
    intro hz
    unfold wp_X7_common_51
    refine ⟨hm.1, _, m_isZero hm (show a < 30 by omega), ?_⟩
    rintro v I4 L4 A4 ⟨h4, rfl, rfl, rfl⟩
    rw [(hs a ha8).1] at h4
    refine ⟨fun z => zero a ha8 (fun R hR => ?_), fun z => zero b hb8 (fun R hR => ?_)⟩
    · have hna := way0 h4 z
      have hb0 : P b = p0 := by rcases hz with w | w; exact absurd w hna; exact w
      exact ⟨R, p0, hR, by rw [hb0]; exact pz, Or.inr (Or.inl ⟨pne a R hna hR, rfl, rfl⟩)⟩
    · have ha0 := way1 h4 z
      exact ⟨p0, R, by rw [ha0]; exact pz, hR, Or.inl ⟨rfl, rfl⟩⟩
  refine ⟨fun _ => ⟨hm.1, _, m_isZero hm (show a < 30 by omega), ?_⟩, fun z => absurd rfl z⟩
  rintro v I4 L4 A4 ⟨h4, rfl, rfl, rfl⟩
  rw [(hs a ha8).1] at h4
  refine ⟨fun z => ⟨_, m_isZero hm (show b < 30 by omega), ?_⟩, fun z => zero2 (Or.inl (way1 h4 z))⟩
  have hna := way0 h4 z
  rintro v I5 L5 A5 ⟨h5, rfl, rfl, rfl⟩
  rw [(hs b hb8).1] at h5
  refine ⟨fun z => ?_, fun z => zero2 (Or.inr (way1 h5 z))⟩
  have hnb := way0 h5 z
  clear zero zero2 h4 h5
  refine ⟨_, m_takeApart hm ha8 (hs a ha8).1 (hs a ha8).2 hna, ?_⟩
  rintro I6 L6 A6 ⟨⟨ca, qa, na, fa, hpa, hfa, hsa, hpt, -⟩, ru6, fr6, rfl⟩ I7 e7
  have hca6 := hpt.2.1
  have hpt7 : PtS m I7 L6 ca qa na := ⟨by rw [e7, u2_ne _ _ (by omega)]; exact hpt.1, hca6, fun i hi => by rw [e7, u2_off _ _ (by omega)]; exact hpt.2.2 i hi⟩
  have k3 : I7 m 3 = nI ca := by rw [e7, u2_self]; exact hpt.1
  have fr7 : FrC m (u2 I1 m 0 0) I7 := fr6.c.trans ⟨fun y h1 _ _ _ => by rw [e7, u2_off _ _ h1], fun k _ h2 _ _ _ _ _ => by rw [e7, u2_ne _ _ (by omega)]⟩
  -- the copies
  unfold wp_X7_common_103
  refine ⟨fun μ I' L' A' x => ∃ i, i + μ = ca ∧ x = nI i ∧ PtS m I' L' ca qa na ∧ OtS m I' L' i qa na ∧ I' m 3 = nI ca ∧ FrC m (u2 I1 m 0 0) I' ∧ RU m rC L5 L' ∧ A' = A6, ca, ⟨0, by omega, rfl, hpt7, fun i hi => absurd hi (Nat.not_lt_zero _), k3, fr7, ru6.mono rTC, rfl⟩, ?_⟩
  rintro μ C hC I' L' A' _ ⟨i, hi, rfl, hp', ho', k3', fr', ru', rfl⟩
  refine ⟨hm.1, fun z => ?_, fun z => ?_⟩
  rotate_left
  · rw [hp'.1, ile, tI (by omega), tI (by omega)] at z
    rw [t20 (by omega), t12 (by omega)]
    refine ⟨_, m_copy (r := 20 + i) (u := 12 + i) hm (by omega) (by omega), ?_⟩
    rintro I8 L8 A8 ⟨c8, ru8, rfl, rfl⟩
    refine ⟨⟨8, hm.2.2.1, inOf (tI (by omega)) (by omega)⟩, ⟨8, hm.2.2.2.1, inOf (tI (by omega)) (by omega)⟩, fun I9 e9 v ev => ?_⟩
    rw [ixn (by omega)] at e9
    have hpi := hp'.2.2 i (by omega)
    refine hC (μ - 1) _ _ _ _ (by omega) ⟨i + 1, by omega, by rw [ev, sI], ⟨by rw [e9, u2_off _ _ (by omega)]; exact hp'.1, hca6, fun j hj => ?_⟩, fun j hj => ?_, by rw [e9, u2_off _ _ (by omega)]; exact k3', fr'.trans ⟨fun y _ _ h3 _ => by rw [e9, u2_off _ _ h3], fun k _ _ _ _ _ _ _ => by rw [e9, u2_off _ _ (by omega)]⟩, ru'.trans (ru8.mono (fun s h => by show 8 ≤ s; omega)), rfl⟩
    · rw [e9, u2_off _ _ (by omega), ru8.same (show ¬ 12 + j = 20 + i by omega)]; exact hp'.2.2 j hj
    · by_cases w : j = i
      · subst w
        rw [e9, u2_self, c8]; exact ⟨hpi.1, hpi.2.1⟩
      · rw [e9, u2_ne _ _ (by omega), ru8.same (show ¬ 20 + j = 20 + i by omega)]; exact ho' j (by omega)
  · rw [hp'.1, ile, tI (by omega), tI (by omega)] at z
    have hic : i = ca := by omega
    subst hic
    have hsl := hs.ru ru' noC
    refine ⟨_, m_takeApart hm hb8 (hsl b hb8).1 (hsl b hb8).2 hnb, ?_⟩
    rintro I8 L8 A8 ⟨⟨cb, qb, nb, fb, hpb, hfb, hsb, hptb, -⟩, ru8, fr8, rfl⟩
    have hbb := pp_body (hs b hb8).2 hnb hpb
    have hcb6 := hptb.2.1
    refine ⟨_, m_clear (r := 8) hm (by omega), ?_⟩
    rintro I9 L9 A9 ⟨c9, ru9, rfl, rfl⟩
    have l64 : (64 : Int32).toInt = ((8 * 8 + 0 : Nat) : Int) := by decide
    refine ⟨rok hm (show 8 < 30 by omega) (show 0 < 8 by omega) l64, fun L10 e10 => ?_⟩
    rw [ix_of l64] at e10
    have ru10 : RU m (· = 8) L9 L10 := by rw [e10]; exact u2_ru (by omega)
    have h8 : rp L10 m 8 = pk0 1 := funext fun k => by
      by_cases w : k < 8
      · rw [rp_lt w, e10]
        by_cases x : k = 0
        · subst x; rw [u2_self]; decide
        · rw [u2_ne _ _ (by omega), ← rp_lt w, c9]
          cases k with
          | zero => exact absurd rfl x
          | succ k => rfl
      · rw [rp, if_neg w]
        cases k with
        | zero => omega
        | succ k => rfl
    have ru810 : RU m (· = 8) L8 L10 := ru9.trans ru10
    have hpt10 : PtS m I9 L10 cb qb nb := hptb.keep rfl rfl ru810 (fun i hi => by omega)
    have ho10 : OtS m I9 L10 i qa na := fun j hj => by
      have h6 := hca6
      rw [ru810.same (show ¬ 20 + j = 8 by omega), ru8.same (show ¬ rT (20 + j) from fun h => by have : 8 ≤ 20 + j ∧ 20 + j < 20 := h; omega), fr8.1 (m + 3) (by omega) (by omega) (by omega)]
      exact ho' j hj
    have k3'' : I9 m 3 = nI i := by rw [fr8.2 3 (by omega) (by omega) (by omega) (by omega) (by omega) (by omega)]; exact k3'
    have fr10 : FrC m (u2 I1 m 0 0) I9 := fr'.trans fr8.c
    have ruB : RU m rC L5 L10 := (ru'.trans (ru8.mono rTC)).trans (ru810.mono r8C)
    -- the state of the loops: only row 8 (and 9) moves
    obtain ⟨S, hS⟩ : ∃ S : PP → TI → TL → TA → Prop, S = fun R I' L' A' => rp L' m 8 = R ∧ RU m (fun s => s = 8 ∨ s = 9) L10 L' ∧ I' = I9 ∧ A' = A9 := ⟨_, rfl⟩
    have hOt : ∀ {R I' L' A'}, S R I' L' A' → PtS m I' L' cb qb nb ∧ OtS m I' L' i qa na := fun h => by
      rw [hS] at h
      obtain ⟨h1, h2, rfl, rfl⟩ := h
      exact ⟨hpt10.keep rfl rfl h2 (fun j hj => by omega), fun j hj => by rw [h2.same (show ¬ (20 + j = 8 ∨ 20 + j = 9) by omega)]; exact ho10 j hj⟩
    clear hC hp' ho' k3' fr' ru8 ru9 c9 e10 ru10 ru810
    unfold wp_X7_common_168
    refine ⟨fun μ I' L' A' x => ∃ j e, j + μ = cb ∧ x = nI j ∧ (∀ j', j' < j → exG i qb qa nb na j' i (e j')) ∧ S (prd qb e j) I' L' A', cb, ⟨0, fun _ => 0, by omega, rfl, fun j' h => absurd h (Nat.not_lt_zero _), ?_⟩, ?_⟩
    · rw [hS]; exact ⟨h8, RU.refl _ _ _, rfl, rfl⟩
    rintro μ' C1 hC1 I' L' A' _ ⟨j, e, hj, rfl, he, hst⟩
    have hle : ∀ j', j' < j → e j' ≤ nb j' := fun j' hj' => by
      rcases (he j' hj').1 with ⟨k', -, -, w⟩ | ⟨-, w⟩
      · rw [w]; exact Nat.min_le_left _ _
      · omega
    have hst' := hst
    rw [hS] at hst'
    obtain ⟨s1, s2, rfl, rfl⟩ := hst'
    obtain ⟨hpj, hoj⟩ := hOt hst
    refine ⟨hm.1, fun z => ?_, fun z => ?_⟩
    · rw [hpj.1, ile, tI (by omega), tI (by omega)] at z
      have hjc : j = cb := by omega
      subst hjc
      refine fin _ _ _ s1 (ruB.trans (s2.mono (fun s h => by show 8 ≤ s; omega))) fr10 ⟨fa, fb, hpa, hpb, Or.inr (Or.inr ⟨pne a fa hna hpa, pne b fb hnb hpb, ?_⟩)⟩
      exact (fac_gcd hfb hfa (fun j' hj' => (he j' hj').1)).sym
    · rw [hpj.1, ile, tI (by omega), tI (by omega)] at z
      have hjc : j < cb := by omega
      unfold wp_X7_common_180
      refine ⟨fun ν I'' L'' A'' x4 x5 => ∃ k w, k + ν = i ∧ x4 = nI j ∧ x5 = nI k ∧ exG i qb qa nb na j k w ∧ S (pm (prd qb e j) (pw (qb j) w)) I'' L'' A'', i, ⟨0, 0, by omega, rfl, rfl, ⟨Or.inr ⟨fun k' h => absurd h (Nat.not_lt_zero _), rfl⟩, Nat.zero_le _⟩, ?_⟩, ?_⟩
      · have : pm (prd qb e j) (pw (qb j) 0) = prd qb e j := pm_1r _
        rw [this]; exact hst
      clear hst s1 s2 hpj hoj
      rintro ν C2 hC2 I'' L'' A'' _ _ ⟨k, w, hk, rfl, rfl, hw, hst⟩
      have hst' := hst
      rw [hS] at hst'
      obtain ⟨s1, s2, rfl, rfl⟩ := hst'
      obtain ⟨hpj, hoj⟩ := hOt hst
      have k3a := k3''
      refine ⟨hm.1, fun z v18 e18 => ?_, fun z => ?_⟩
      · rw [k3a, ile, tI (by omega), tI (by omega)] at z
        have hki : k = i := by omega
        subst hki
        refine hC1 (μ' - 1) _ _ _ _ (by omega) ⟨j + 1, upN e j w, by omega, by rw [e18, sI], fun j' hj' => ?_, ?_⟩
        · unfold upN
          by_cases y : j' = j
          · rw [if_pos y, y]; exact hw
          · rw [if_neg y]; exact he j' (by omega)
        · have e1 : prd qb (upN e j w) j = prd qb e j := prd_congr j (fun x hx => ⟨rfl, if_neg (by omega)⟩)
          rw [prd, e1, show upN e j w j = w from if_pos rfl]
          exact hst
      · rw [k3a, ile, tI (by omega), tI (by omega)] at z
        have hki : k < i := by omega
        rw [t12 (by omega), t20 (by omega)]
        have hfj := hfb.2.1 j hjc
        have hfk := hfa.2.1 k hki
        have rj : rp L'' m (12 + j) = qb j := (hpj.2.2 j hjc).1
        have rk : rp L'' m (20 + k) = qa k := (hoj k hki).1
        have nj : I'' (m + 2) j = nI (nb j) := (hpj.2.2 j hjc).2.1
        have nk : I'' (m + 3) k = nI (na k) := (hoj k hki).2
        have nj8 : nb j ≤ 8 := (hpj.2.2 j hjc).2.2.2
        have nk8 : na k ≤ 8 := (hpt.2.2 k hki).2.2.2
        have okj : aok (cxS K) (m + 2) 0 (nI j) := ⟨8, hm.2.2.1, inOf (tI (by omega)) (by omega)⟩
        have okk : aok (cxS K) (m + 3) 0 (nI k) := ⟨8, hm.2.2.2.1, inOf (tI (by omega)) (by omega)⟩
        -- nothing is multiplied
        have stay : qb j ≠ qa k → ∀ v : Int32, v = nI k + 1 → C2 I'' L'' A'' (nI j) v := fun hne v hv => by
          refine hC2 (ν - 1) _ _ _ _ _ (by omega) ⟨k + 1, w, by omega, rfl, by rw [hv, sI], ⟨?_, by omega⟩, hst⟩
          rcases hw.1 with ⟨k', a1, a2, a3⟩ | ⟨a1, a2⟩
          · exact Or.inl ⟨k', by omega, a2, a3⟩
          · refine Or.inr ⟨fun k' hk' => ?_, a2⟩
            by_cases y : k' = k
            · rw [y]; exact hne
            · exact a1 k' (by omega)
        have diff : qb j ≠ qa k → wp_X7_common_228 K m (nI t) (nI a) (nI b) C1 C2 I'' L'' A'' (nI j) (nI k) 0 Q := fun hne => by
          unfold wp_X7_common_228
          have lp : ∀ v : Int32, wp_X7_common_269 K m (nI t) (nI a) (nI b) C1 C2 I'' L'' A'' (nI j) (nI k) 0 v 0 Q := fun v => by
            unfold wp_X7_common_269
            refine ⟨fun _ I3 L3 A3 x4 x5 x6 x7 x8 => I3 = I'' ∧ L3 = L'' ∧ A3 = A'' ∧ x4 = nI j ∧ x5 = nI k ∧ x6 = 0, 0, ⟨rfl, rfl, rfl, rfl, rfl, rfl⟩, ?_⟩
            rintro _ C3 _ I3 L3 A3 _ _ _ x7 x8 ⟨rfl, rfl, rfl, rfl, rfl, rfl⟩
            exact ⟨fun _ v1 e1 => stay hne v1 e1, fun _ => ⟨fun _ v2 e2 => stay hne v2 e2, fun y => absurd rfl y⟩⟩
          exact ⟨hm.1, okj, okk, fun _ => ⟨okk, fun v14 _ => lp v14⟩, fun _ => ⟨okj, fun v16 _ => lp v16⟩⟩
        have same : qb j = qa k → wp_X7_common_228 K m (nI t) (nI a) (nI b) C1 C2 I'' L'' A'' (nI j) (nI k) 1 Q := fun heq => by
          -- no earlier one matched
          have hw0 : w = 0 := by
            rcases hw.1 with ⟨k', a1, a2, a3⟩ | ⟨-, a2⟩
            · exact absurd (a2.symm.trans heq) (hfa.2.2 k' k (by omega) hki (by omega))
            · exact a2
          subst hw0
          unfold wp_X7_common_228
          have lp : ∀ x : Nat, x = min (nb j) (na k) → wp_X7_common_269 K m (nI t) (nI a) (nI b) C1 C2 I'' L'' A'' (nI j) (nI k) 1 (nI x) 0 Q := fun x hx => by
            have hx1 : x ≤ nb j := by rw [hx]; exact Nat.min_le_left _ _
            unfold wp_X7_common_269
            refine ⟨fun κ I3 L3 A3 x4 x5 x6 x7 x8 => ∃ y, y + κ = x ∧ S (pm (prd qb e j) (pw (qb j) y)) I3 L3 A3 ∧ x4 = nI j ∧ x5 = nI k ∧ x6 = 1 ∧ x7 = nI x ∧ x8 = nI y, x, ⟨0, by omega, hst, rfl, rfl, rfl, rfl, rfl⟩, ?_⟩
            rintro κ C3 hC3 I3 L3 A3 _ _ _ _ _ ⟨y, hy, hst3, rfl, rfl, rfl, rfl, rfl⟩
            refine ⟨fun u v1 e1 => ?_, fun u => ⟨fun y => absurd y (by decide), fun _ => ?_⟩⟩
            · rw [ile, tI (by omega), tI (by omega)] at u
              have hyx : y = x := by omega
              subst hyx
              exact hC2 (ν - 1) _ _ _ _ _ (by omega) ⟨k + 1, y, by omega, rfl, by rw [e1, sI], ⟨Or.inl ⟨k, by omega, heq, hx⟩, by omega⟩, hst3⟩
            · rw [ile, tI (by omega), tI (by omega)] at u
              have hst3' := hst3
              rw [hS] at hst3'
              obtain ⟨u1, u2', rfl, rfl⟩ := hst3'
              obtain ⟨hp3, ho3⟩ := hOt hst3
              rw [t12 (by omega)]
              have d1 := prd_part hfb hjc hle (show y ≤ nb j by omega)
              have d2 := prd_part hfb hjc hle (show y + 1 ≤ nb j by omega)
              have hqp : Pf (qb j) := hfb.pf j hjc
              have hpp1 : Pf (pm (prd qb e j) (pw (qb j) y)) := (prd_pf j (fun x hx => hfb.pf x (by omega))).mul (pw_pf hqp y)
              have b1 := body_bd hbb hpp1 d1
              have b2 := body_bd hbb hqp (hfb.dvd1 hjc)
              have e12 : pm (pm (prd qb e j) (pw (qb j) y)) (qb j) = pm (prd qb e j) (pw (qb j) (y + 1)) := by
                rw [pma, pw, pmc (pw (qb j) y) (qb j)]
              have b3 := body_bd hbb (by rw [← e12]; exact hpp1.mul hqp) d2
              refine ⟨hm.1, _, m_timesPart (r := 12 + j) hm (by omega) (by omega) u1 (hp3.2.2 j hjc).1 b1.2.1 b2.2.1 (by rw [e12]; exact dl_mono b3.1 (by omega)), ?_⟩
              rintro I4 L4 A4 ⟨v1, v2, rfl, rfl⟩ v9 e9
              refine hC3 (κ - 1) _ _ _ _ _ _ _ _ (by omega) ⟨y + 1, by omega, ?_, rfl, rfl, rfl, rfl, by rw [e9, sI]⟩
              rw [hS]
              exact ⟨by rw [v1, e12], u2'.trans v2, rfl, rfl⟩
          rw [ixn (by omega), ixn (by omega), nj, nk]
          refine ⟨hm.1, okj, okk, fun u => ⟨okk, fun v14 e14 => ?_⟩, fun u => ⟨okj, fun v16 e16 => ?_⟩⟩
          · rw [ile, tI (by omega), tI (by omega)] at u
            rw [e14]; exact lp (na k) (Nat.min_eq_right (by omega)).symm
          · rw [ile, tI (by omega), tI (by omega)] at u
            rw [e16]; exact lp (nb j) (Nat.min_eq_left (by omega)).symm
        refine ⟨_, m_isBefore (x := 12 + j) (y := 20 + k) hm (by omega) (by omega) (by rw [rj]; exact hfj.2.1) (by rw [rk]; exact hfk.2.1), ?_⟩
        rintro v I3 L3 A3 ⟨hv, rfl, rfl, rfl⟩
        rw [rj, rk] at hv
        refine ⟨fun z1 => ⟨_, m_isBefore (x := 20 + k) (y := 12 + j) hm (by omega) (by omega) (by rw [rk]; exact hfk.2.1) (by rw [rj]; exact hfj.2.1), ?_⟩, fun z1 => ?_⟩
        · rintro v2 I4 L4 A4 ⟨hv2, rfl, rfl, rfl⟩
          rw [rj, rk] at hv2
          refine ⟨fun z2 => ?_, fun z2 => ?_⟩
          · have n1 := way0 hv z1
            have n2 := way0 hv2 z2
            rcases bef_tri (hfb.pf j hjc) (hfa.pf k hki) with w1 | w1 | w1
            · exact absurd w1 n1
            · exact same w1
            · exact absurd w1 n2
          · unfold wp_X7_common_227
            exact diff (fun w1 => by have := way1 hv2 z2; rw [w1] at this; exact this.irr)
        · unfold wp_X7_common_227
          exact diff (fun w1 => by have := way1 hv z1; rw [w1] at this; exact this.irr)
end
