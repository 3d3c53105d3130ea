/-! THE REFERENCE: sort, takeApart -/
section
variable {K : Cx} {I : TI} {L : TL} {A : TA}
def swp {α : Type} (q : Nat → α) (j : Nat) : Nat → α := fun i => if i = j + 1 then q j else if i = j then q (j + 1) else q i
theorem swp_hi {α : Type} (q : Nat → α) (j : Nat) : swp q j (j + 1) = q j := if_pos rfl
theorem swp_lo {α : Type} (q : Nat → α) (j : Nat) : swp q j j = q (j + 1) := by unfold swp; rw [if_neg (by omega), if_pos rfl]
theorem swp_ne {α : Type} (q : Nat → α) {j i : Nat} (h1 : i ≠ j + 1) (h2 : i ≠ j) : swp q j i = q i := by unfold swp; rw [if_neg h1, if_neg h2]
theorem prd_swp {q : Nat → PP} {n : Nat → Nat} {j : Nat} : ∀ c, j + 1 < c → prd (swp q j) (swp n j) c = prd q n c
  | 0, h => absurd h (Nat.not_lt_zero _)
  | c + 1, h => by
    by_cases w : c = j + 1
    · subst w
      rw [prd, prd, prd, prd, swp_hi, swp_hi, swp_lo, swp_lo, prd_congr (q' := q) (n' := n) j (fun i hi => ⟨swp_ne q (by omega) (by omega), swp_ne n (by omega) (by omega)⟩)]
      funext k
      rw [pm_assoc, pm_assoc, show pm (pw (q (j + 1)) (n (j + 1))) (pw (q j) (n j)) = pm (pw (q j) (n j)) (pw (q (j + 1)) (n (j + 1))) from funext fun i => pm_comm i _ _]
    · rw [prd, prd, prd_swp c (by omega), swp_ne q (by omega) (by omega), swp_ne n (by omega) (by omega)]
theorem Fac.sw {f0 : PP} {c j : Nat} {q : Nat → PP} {n : Nat → Nat} (h : Fac f0 c q n) (hj : j + 1 < c) : Fac f0 c (swp q j) (swp n j) := by
  obtain ⟨h1, h2, h3⟩ := h
  have key : ∀ i, i < c → ∃ i', i' < c ∧ swp q j i = q i' ∧ swp n j i = n i' ∧ ((i = j + 1 ∧ i' = j) ∨ (i = j ∧ i' = j + 1) ∨ (i ≠ j + 1 ∧ i ≠ j ∧ i' = i)) := fun i hi => by
    by_cases a : i = j + 1
    · subst a; exact ⟨j, by omega, swp_hi q j, swp_hi n j, Or.inl ⟨rfl, rfl⟩⟩
    · by_cases b : i = j
      · subst b; exact ⟨i + 1, by omega, swp_lo q i, swp_lo n i, Or.inr (Or.inl ⟨rfl, rfl⟩)⟩
      · exact ⟨i, hi, swp_ne q a b, swp_ne n a b, Or.inr (Or.inr ⟨a, b, rfl⟩)⟩
  refine ⟨by rw [prd_swp c hj]; exact h1, fun i hi => ?_, fun i k hi hk hik => ?_⟩
  · obtain ⟨i', a, b, d, -⟩ := key i hi
    rw [b, d]; exact h2 i' a
  · obtain ⟨i', a, b, -, e⟩ := key i hi
    obtain ⟨k', a', b', -, e'⟩ := key k hk
    rw [b, b']
    exact h3 i' k' a a' (by omega)
def srt (c : Nat) (q : Nat → PP) : Prop := ∀ i j, i < j → j < c → bef (q i) (q j)
theorem t12 {k : Nat} (h : k < 1000) : (12 : Int32) + nI k = nI (12 + k) := eqn (by
  have : (12 : Int32).toInt = 12 := by decide
  rw [iadd (by rw [tI (by omega), this]; omega) (by rw [tI (by omega), this]; omega), tI (by omega), this]; omega)
set_option maxHeartbeats 2000000 in
theorem m_sort {m c : Nat} {f0 : PP} {q : Nat → PP} {n : Nat → Nat} (hm : isX7 K m) (hf : Fac f0 c q n) (hp : PtS m I L c q n) :
    ConV K yX7_sort wsX7_sort 2 46 I L A [.ref m] (fun I' L' A' => (∃ q' n', Fac f0 c q' n' ∧ PtS m I' L' c q' n' ∧ srt c q') ∧ RU m (fun s => s = 10 ∨ (12 ≤ s ∧ s < 18)) L L' ∧ FrI m I I' ∧ A' = A) := by
  have hc6 := hp.2.1
  obtain ⟨S, hS⟩ : ∃ S : (Nat → PP) → TI → TL → TA → Prop, S = fun q' I' L' A' => ∃ n', Fac f0 c q' n' ∧ PtS m I' L' c q' n' ∧ RU m (fun s => s = 10 ∨ (12 ≤ s ∧ s < 18)) L L' ∧ FrI m I I' ∧ A' = A := ⟨_, rfl⟩
  apply w_X7_sort
  unfold wp_X7_sort wp_X7_sort_2
  refine ⟨fun μ I' L' A' x => ∃ i q', (i + μ = c + 1 ∧ 1 ≤ i) ∧ x = nI i ∧ (∀ a b, a < b → b < i → b < c → bef (q' a) (q' b)) ∧ S q' I' L' A', c, ⟨1, q, by omega, rfl, fun a b h1 h2 => by omega, ?_⟩, ?_⟩
  · rw [hS]; exact ⟨n, hf, hp, RU.refl _ _ _, FrI.refl _ _, rfl⟩
  rintro μ C hC I' L' A' _ ⟨i, q', ⟨hi, hi1⟩, rfl, hsr, hst⟩
  have hst0 := hst
  rw [hS] at hst0
  obtain ⟨n', g1, g2, g3, g4, g5⟩ := hst0
  refine ⟨hm.1, fun z => ?_, fun z => ?_⟩
  · rw [g2.1, ile, tI (by omega), tI (by omega)] at z
    exact ⟨⟨q', n', g1, g2, fun a b h1 h2 => hsr a b h1 (by omega) h2⟩, g3, g4, g5⟩
  · rw [g2.1, ile, tI (by omega), tI (by omega)] at z
    have hic : i < c := by omega
    clear g1 g2 g3 g4 g5
    unfold wp_X7_sort_12
    refine ⟨fun ν I'' L'' A'' x1 x2 => ∃ q'', ν ≤ i ∧ x1 = nI i ∧ x2 = nI ν ∧ (∀ a b, a < b → b ≤ i → b ≠ ν → bef (q'' a) (q'' b)) ∧ S q'' I'' L'' A'', i, ⟨q', Nat.le_refl i, rfl, rfl, fun a b h1 h2 h3 => hsr a b h1 (by omega) (by omega), hst⟩, ?_⟩
    clear hst hsr
    rintro ν C' hC' I2 L2 A2 _ _ ⟨q'', hν, rfl, rfl, hsr, hst⟩
    have hst0 := hst
    rw [hS] at hst0
    obtain ⟨n', g1, g2, g3, g4, g5⟩ := hst0
    refine ⟨fun w v hv => ?_, fun w => ?_⟩
    · rw [ile, li0, tI (by omega)] at w
      have : ν = 0 := by omega
      subst this
      exact hC (μ - 1) _ _ _ _ (by omega) ⟨i + 1, q'', ⟨by omega, by omega⟩, by rw [hv, sI], fun a b h1 h2 _ => hsr a b h1 (by omega) (by omega), hst⟩
    · rw [ile, li0, tI (by omega)] at w
      obtain ⟨j, rfl⟩ : ∃ j, ν = j + 1 := ⟨ν - 1, by omega⟩
      have e12 : (12 : Int32) + nI (j + 1) = nI (12 + j + 1) := by rw [t12 (by omega)]; rfl
      have e12' : (12 : Int32) + nI (j + 1) - 1 = nI (12 + j) := by rw [e12]; exact tp_s (12 + j)
      have ej : nI (j + 1) - 1 = nI j := tp_s j
      have hp1 := g2.2.2 (j + 1) (by omega)
      have hp0 := g2.2.2 j (by omega)
      have hr1 : rp L2 m (12 + j + 1) = q'' (j + 1) := hp1.1
      have hr0 : rp L2 m (12 + j) = q'' j := hp0.1
      rw [e12', e12]
      refine ⟨hm.1, _, m_isBefore (x := 12 + j + 1) (y := 12 + j) hm (by omega) (by omega) (by rw [hr1]; exact (g1.2.1 (j + 1) (by omega)).2.1) (by rw [hr0]; exact (g1.2.1 j (by omega)).2.1), ?_⟩
      rintro v I3 L3 A3 ⟨hv, rfl, rfl, rfl⟩
      rw [hr1, hr0] at hv
      refine ⟨fun w2 v9 e9 => ?_, fun w2 => ⟨_, m_copy (r := 10) (u := 12 + j + 1) hm (by omega) (by omega), ?_⟩⟩
      · have hnb := way0 hv w2
        have hb : bef (q'' j) (q'' (j + 1)) := by
          obtain ⟨d1, hd1, -⟩ := (g1.2.1 j (by omega)).2.1
          obtain ⟨d2, hd2, -⟩ := (g1.2.1 (j + 1) (by omega)).2.1
          rcases bef_tri hd1.pf hd2.pf with t | t | t
          · exact t
          · exact absurd t (g1.2.2 j (j + 1) (by omega) (by omega) (by omega))
          · exact absurd t hnb
        refine hC (μ - 1) _ _ _ _ (by omega) ⟨i + 1, q'', ⟨by omega, by omega⟩, by rw [e9, sI], fun a b h1 h2 _ => ?_, hst⟩
        by_cases eb : b = j + 1
        · subst eb
          by_cases ea : a = j
          · subst ea; exact hb
          · exact (hsr a j (by omega) (by omega) (by omega)).trans hb
        · exact hsr a b h1 (by omega) eb
      · have hb := way1 hv w2
        rintro I4 L4 A4 ⟨c4, ru4, rfl, rfl⟩
        refine ⟨_, m_copy (r := 12 + j + 1) (u := 12 + j) hm (by omega) (by omega), ?_⟩
        rintro I5 L5 A5 ⟨c5, ru5, rfl, rfl⟩
        refine ⟨_, m_copy (r := 12 + j) (u := 10) hm (by omega) (by omega), ?_⟩
        rintro I6 L6 A6 ⟨c6, ru6, rfl, rfl⟩
        have ok1 : aok (cxS K) (m + 2) 0 (nI (j + 1)) := ⟨8, hm.2.2.1, inOf (tI (by omega)) (by omega)⟩
        have ok0 : aok (cxS K) (m + 2) 0 (nI (j + 1) - 1) := by rw [ej]; exact ⟨8, hm.2.2.1, inOf (tI (by omega)) (by omega)⟩
        refine ⟨ok1, fun v26 e26 => ⟨ok0, ok1, fun I7 e7 => ⟨ok0, fun I8 e8 v32 e32 => ?_⟩⟩⟩
        rw [ixn (by omega)] at e26
        rw [ej, ixn (by omega), ixn (by omega)] at e7
        rw [ej, ixn (by omega)] at e8
        have r10 : rp L6 m (12 + j) = q'' (j + 1) := by rw [c6, ru5.same (show ¬ 10 = 12 + j + 1 by omega), c4, hr1]
        have r11 : rp L6 m (12 + j + 1) = q'' j := by rw [ru6.same (show ¬ 12 + j + 1 = 12 + j by omega), c5, ru4.same (show ¬ 12 + j = 10 by omega), hr0]
        have rot : ∀ s, s ≠ 10 → s ≠ 12 + j → s ≠ 12 + j + 1 → rp L6 m s = rp L3 m s := fun s h1 h2 h3 => by
          rw [ru6.same (show ¬ s = 12 + j by omega), ru5.same (show ¬ s = 12 + j + 1 by omega), ru4.same (show ¬ s = 10 by omega)]
        have hru : RU m (fun s => s = 10 ∨ (12 ≤ s ∧ s < 18)) L3 L6 := ((ru4.mono (fun s h => by omega)).trans (ru5.mono (fun s h => by omega))).trans (ru6.mono (fun s h => by omega))
        refine hC' j _ _ _ _ _ (by omega) ⟨swp q'' j, by omega, rfl, by rw [e32, ldec (by omega)]; exact tp_s j, fun a b h1 h2 h3 => ?_, ?_⟩
        · by_cases eb : b = j + 1
          · subst eb
            rw [swp_hi]
            by_cases ea : a = j
            · subst ea; rw [swp_lo]; exact hb
            · rw [swp_ne _ (by omega) ea]; exact hsr a j (by omega) (by omega) (by omega)
          · rw [swp_ne _ (i := b) eb h3]
            by_cases ea : a = j + 1
            · subst ea; rw [swp_hi]; exact hsr j b (by omega) h2 eb
            · by_cases ea' : a = j
              · subst ea'; rw [swp_lo]; exact hsr (a + 1) b (by omega) h2 eb
              · rw [swp_ne _ ea ea']; exact hsr a b h1 h2 eb
        · rw [hS]
          refine ⟨swp n' j, g1.sw (by omega), ⟨?_, hc6, fun s hs => ?_⟩, g3.trans hru, g4.trans ⟨fun y h1 h2 => by rw [e8, u2_off _ _ h2, e7, u2_off _ _ h2], fun k _ => by rw [e8, u2_off _ _ (by omega), e7, u2_off _ _ (by omega)]⟩, g5⟩
          · rw [e8, u2_off _ _ (by omega), e7, u2_off _ _ (by omega)]; exact g2.1
          · have hps := g2.2.2 s hs
            by_cases a : s = j + 1
            · subst a
              rw [swp_hi, swp_hi, e8, u2_ne _ _ (by omega), e7, u2_self]
              exact ⟨r11, hp0.2.1, hp0.2.2⟩
            · by_cases b : s = j
              · subst b
                rw [swp_lo, swp_lo, e8, u2_self, e26]
                exact ⟨r10, hp1.2.1, hp1.2.2⟩
              · rw [swp_ne _ a b, swp_ne _ a b, e8, u2_ne _ _ (by omega), e7, u2_ne _ _ (by omega)]
                exact ⟨(rot (12 + s) (by omega) (by omega) (by omega)).trans hps.1, hps.2⟩
/-- what takeApart may write of the ints -/
def FrT (m : Nat) (I I' : TI) : Prop := (∀ y, y ≠ m → y ≠ m + 2 → y ≠ m + 7 → I' y = I y) ∧ ∀ k, k ≠ 2 → k ≠ 6 → k ≠ 14 → k ≠ 15 → k ≠ 16 → k ≠ 17 → I' m k = I m k
theorem FrT.refl (m : Nat) (I : TI) : FrT m I I := ⟨fun _ _ _ _ => rfl, fun _ _ _ _ _ _ _ => rfl⟩
theorem FrT.trans {m : Nat} {I' I'' : TI} (h : FrT m I I') (h' : FrT m I' I'') : FrT m I I'' := ⟨fun y h1 h2 h3 => (h'.1 y h1 h2 h3).trans (h.1 y h1 h2 h3), fun k h1 h2 h3 h4 h5 h6 => (h'.2 k h1 h2 h3 h4 h5 h6).trans (h.2 k h1 h2 h3 h4 h5 h6)⟩
theorem FrF.t {m : Nat} {I' : TI} (h : FrF m I I') : FrT m I I' := ⟨h.1, fun k h1 _ h3 h4 h5 h6 => h.2 k h1 h3 h4 h5 h6⟩
/-- the parts of f, told in order -/
def PtT (m : Nat) (I : TI) (L : TL) (f : PP) (c : Nat) (q : Nat → PP) (n : Nat → Nat) : Prop := ∃ f0, ppA f f0 ∧ Fac f0 c q n ∧ srt c q ∧ PtS m I L c q n ∧ (I m 6).toInt = cnt f
theorem sgd_le {f : PP} {d : Nat} (hs : sm7 f) (hd : dgI f d) : (sgd f (d + 1)).natAbs ≤ 300 := by
  have h1 := sgd_dvd hd.2 d
  have h2 := Nat.le_of_dvd (Int.natAbs_pos.mpr hd.1) (Int.natAbs_dvd_natAbs.mpr h1)
  have := hs.2 d
  omega
set_option maxHeartbeats 2000000 in
theorem m_takeApart {m s : Nat} {f : PP} (hm : isX7 K m) (hs : s < 8) (hf : rp L m s = f) (hsm : sm7 f) (hf0 : f ≠ p0) :
    ConV K yX7_takeApart wsX7_takeApart 6 149 I L A [.ref m, .int (nI s)] (fun I' L' A' => (∃ c q n, PtT m I' L' f c q n) ∧ RU m rT L L' ∧ FrT m I I' ∧ A' = A) := by
  have r8 : ∀ x : Nat, x = 8 → rT x := fun x h => by show 8 ≤ x ∧ x < 20; omega
  have r10 : ∀ x : Nat, (x = 10 ∨ (12 ≤ x ∧ x < 18)) → rT x := fun x h => by show 8 ≤ x ∧ x < 20; omega
  obtain ⟨e, he⟩ := Pf.dg (f := f) ⟨7, hsm.1⟩ hf0
  have he7 := he.lt hsm.1
  have hln : lnP f 8 = e + 1 := lnP_of he.2 (fun z hz => by rw [show z = e by omega]; exact he.1) (by omega)
  have hcn : cnt f = sgd f (e + 1) := by unfold cnt; rw [hln]
  have hc300 := sgd_le hsm he
  have hc0 := sgd_ne he.2 hf0
  apply w_X7_takeApart
  unfold wp_X7_takeApart
  refine ⟨hm.1, _, m_copy (r := 8) (u := s) hm (by omega) (by omega), ?_⟩
  rintro I1 L1 A1 ⟨c1, ru1, rfl, rfl⟩
  rw [hf] at c1
  refine ⟨_, m_takeContent (r := 8) hm (by omega) (by rw [c1]; intro k; have := hsm.2 k; omega), ?_⟩
  rintro v I2 L2 A2 ⟨hv, hco, ru2, rfl, rfl⟩ I19 e19 I20 e20
  rw [c1] at hv hco
  rw [hcn] at hco
  have hpp := pp_of he hco
  obtain ⟨f0, hf0'⟩ : ∃ f0 : PP, f0 = rp L2 m 8 := ⟨_, rfl⟩
  rw [← hf0'] at hco hpp
  rw [if_neg hc0] at hco
  have hb : body f0 := by
    rcases hpp with ⟨z, -⟩ | ⟨-, hpr, c', d', -, -, hd', hp'⟩
    · exact absurd z hf0
    · refine ⟨⟨fun k hk => ?_, fun k => ?_⟩, hpr, d', hd', hp'⟩
      · have := hsm.1 k hk
        rw [hco k] at this
        rcases Int.mul_eq_zero.mp this with w | w
        · exact absurd w hc0
        · exact w
      · have h1 := hsm.2 k
        rw [hco k] at h1
        have h2 : (f0 k).natAbs ≤ (sgd f (e + 1) * f0 k).natAbs := by
          rw [Int.natAbs_mul]; exact Nat.le_mul_of_pos_left _ (Int.natAbs_pos.mpr hc0)
        omega
  have k6 : I20 m 6 = Int64.toInt32 v := by rw [e20, u2_ne _ _ (by omega), e19, u2_self]
  have k2 : I20 m 2 = nI 0 := by rw [e20, u2_self]; rfl
  have kfr : FrT m I2 I20 := ⟨fun y h1 _ _ => by rw [e20, u2_off _ _ h1, e19, u2_off _ _ h1], fun k h1 h2 _ _ _ _ => by rw [e20, u2_ne _ _ (by omega), e19, u2_ne _ _ (by omega)]⟩
  have hv6 : (Int64.toInt32 v).toInt = cnt f := by
    rw [Int64.toInt_toInt32, hv, hcn]; exact Int.bmod_eq_of_le (by omega) (by omega)
  have p0' : PtS m I20 L2 0 (fun _ => p0) (fun _ => 0) := ⟨k2, by omega, fun i hi => absurd hi (Nat.not_lt_zero _)⟩
  refine ⟨_, m_findFirst hm hb (FS.start hb _ _) p0' hf0'.symm, ?_⟩
  rintro I3 L3 A3 ⟨⟨c3, q3, n3, g3, f3, p3, r3, no3⟩, ru3, fr3, rfl⟩
  refine ⟨_, m_findSecond hm hb f3 p3 r3 no3, ?_⟩
  rintro I4 L4 A4 ⟨⟨c4, q4, n4, g4, f4, p4, r4, no4, nq4⟩, ru4, fr4, rfl⟩
  refine ⟨_, m_findThird hm hb f4 p4 r4 no4 nq4, ?_⟩
  rintro I5 L5 A5 ⟨⟨c5, q5, n5, g5, f5, p5, r5, no5, nq5, nc5⟩, ru5, fr5, rfl⟩
  refine ⟨_, m_degreeOf hm (show 8 < 30 by omega), ?_⟩
  rintro v6 I6 L6 A6 ⟨rfl, rfl, rfl, rfl⟩
  have hgb := body_bd hb f5.1 f5.dvd
  obtain ⟨d, hd1, hd2, hd3⟩ := dg_ex g5 7 hgb.1 f5.2.1
  have hlen : lnP g5 8 = d + 1 := lnP_of hd3 (fun x hx => by rw [show x = d by omega]; exact hd2) (by omega)
  rw [r5, hlen, tp_s]
  have hruA : RU m rT L L6 := ((((ru1.mono r8).trans (ru2.mono r8)).trans ru3).trans ru4).trans ru5
  have hfrA : FrT m I2 I6 := ((kfr.trans fr3.t).trans fr4.t).trans fr5.t
  have k6' : (I6 m 6).toInt = cnt f := by
    rw [fr5.2 6 (by omega) (by omega) (by omega) (by omega) (by omega), fr4.2 6 (by omega) (by omega) (by omega) (by omega) (by omega), fr3.2 6 (by omega) (by omega) (by omega) (by omega) (by omega), k6]; exact hv6
  have fin : ∀ (I7 : TI) (L7 : TL) (A7 : TA) (c7 : Nat) (q7 : Nat → PP) (n7 : Nat → Nat), Fac f0 c7 q7 n7 → PtS m I7 L7 c7 q7 n7 → RU m rT L6 L7 → FrI m I6 I7 → A7 = A6 → wp_X7_takeApart_54 K m (nI s) I7 L7 A7 (fun I' L' A' => (∃ c q n, PtT m I' L' f c q n) ∧ RU m rT L L' ∧ FrT m I2 I' ∧ A' = A6) := by
    intro I7 L7 A7 c7 q7 n7 h1 h2 h3 h4 h5
    unfold wp_X7_takeApart_54
    refine ⟨hm.1, _, m_sort hm h1 h2, ?_⟩
    rintro I8 L8 A8 ⟨⟨q8, n8, a1, a2, a3⟩, a4, a5, a6⟩
    refine ⟨⟨c7, q8, n8, f0, hpp, a1, a3, a2, ?_⟩, (hruA.trans h3).trans (a4.mono r10), (hfrA.trans h4.f.t).trans a5.f.t, a6.trans h5⟩
    rw [a5.2 6 (by omega), h4.2 6 (by omega)]; exact k6'
  refine ⟨fun z => ?_, fun z => ?_⟩
  · rw [ile, li0, tI (by omega)] at z
    have : d = 0 := by omega
    subst this
    exact fin _ _ _ _ _ _ (f5.fac0 hb ⟨hd2, hd3⟩) p5 (RU.refl _ _ _) (FrI.refl _ _) rfl
  · rw [ile, li0, tI (by omega)] at z
    have hirr : Irr g5 := irr_left ⟨hd2, hd3⟩ (by omega) (by omega) (prim_dv hb.2.1 f5.dvd) no5 (fun h4 => nq5 d ⟨hd2, hd3⟩ h4) (fun h6 => nc5 (by rw [← h6]; exact ⟨hd2, hd3⟩))
    refine ⟨_, m_addLast hm p5 r5 (f5.fin hb.1.1 ⟨hd2, hd3⟩ (by omega) (dv.refl g5)) (fun i hi t => (f5.2.2.2.1 i hi).2.2.2 (by rw [t]; exact dv.refl g5)), ?_⟩
    rintro I7 L7 A7 ⟨a1, a2, a3, a4⟩
    exact fin _ _ _ _ _ _ (f5.fac1 hb hirr) a1 a2 a3 a4
end
