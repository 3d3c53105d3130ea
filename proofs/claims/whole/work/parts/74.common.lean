/-! THE DESK: common -/
section
variable {K : Cx} {I : TI} {L : TL} {A : TA}
/-- f1 is f without its content -/
def ppA (f f1 : PP) : Prop := (f = p0 ∧ f1 = p0) ∨ (f ≠ p0 ∧ prim f1 ∧ ∃ c d, c ≠ 0 ∧ f = pc c f1 ∧ dgI f1 d ∧ 0 < f1 d)
theorem sgd_ne {f : PP} {d : Nat} (hd : dl f d) (h0 : f ≠ p0) : sgd f d ≠ 0 := fun z => h0 (funext fun k => by
  have hg : gd f d = 0 := by unfold sgd at z; split at z <;> omega
  by_cases q : k < d
  · have := gd_dvd f d k q
    rw [hg] at this
    exact Int.zero_dvd.mp this
  · exact hd k (by omega))
theorem pp_of {f h : PP} {e : Nat} (hf : dgI f e) (hh : ∀ k, f k = (if sgd f (e + 1) = 0 then 1 else sgd f (e + 1)) * h k) : ppA f h := by
  have hs := sgd_ne hf.2 hf.ne
  rw [if_neg hs] at hh
  have hfe : f = pc (sgd f (e + 1)) h := funext hh
  have hhd : dgI h e := ⟨fun z => hf.1 (by rw [hh e, z]; simp), fun k hk => by
    have := hf.2 k hk
    rw [hh k] at this
    rcases Int.mul_eq_zero.mp this with q | q
    · exact absurd q hs
    · exact q⟩
  have hpos : 0 < h e := by
    have h1 := hh e
    have h2 : (f e < 0 → sgd f (e + 1) ≤ 0) ∧ (¬ f e < 0 → 0 ≤ sgd f (e + 1)) := by
      unfold sgd
      rw [Nat.add_sub_cancel]
      by_cases q : f e < 0
      · rw [if_pos ⟨q, by omega⟩]; exact ⟨fun _ => by omega, fun w => absurd q w⟩
      · rw [if_neg (fun t => q t.1)]; exact ⟨fun w => absurd w q, fun _ => by omega⟩
    rcases Int.lt_or_le 0 (h e) with q | q
    · exact q
    · exfalso
      have hne := hhd.1
      by_cases w : f e < 0
      · have h3 := h2.1 w
        have := Int.mul_nonneg_of_nonpos_of_nonpos h3 q
        omega
      · have h3 := h2.2 w
        have h4 := Int.mul_nonpos_of_nonneg_of_nonpos h3 q
        have := hf.1
        omega
  refine Or.inr ⟨hf.ne, fun l hl ha => ?_, sgd f (e + 1), e, hs, hfe, hhd, hpos⟩
  -- l times the measure divides all
  have hab : (sgd f (e + 1)).natAbs = gd f (e + 1) := by unfold sgd; split <;> omega
  have hl1 := hl.1
  have h1 : l.toNat * gd f (e + 1) ∣ gd f (e + 1) := dvd_gd f _ (e + 1) (fun k _ => by
    obtain ⟨c, hc⟩ := ha k
    rw [hh k, hc, ← Int.natAbs_dvd_natAbs, Int.natAbs_natCast, Int.natAbs_mul, Int.natAbs_mul, hab, show l.natAbs = l.toNat by omega]
    exact ⟨c.natAbs, by rw [Nat.mul_comm l.toNat (gd f (e + 1)), Nat.mul_assoc]⟩)
  have hg0 : 0 < gd f (e + 1) := by rw [← hab]; exact Int.natAbs_pos.mpr hs
  have h2 := Nat.le_of_dvd hg0 h1
  have h3 : 2 * gd f (e + 1) ≤ l.toNat * gd f (e + 1) := Nat.mul_le_mul_right _ (by omega)
  omega
/-- common -/
def comA (P : Nat → PP) (t a b : Nat) (v : Int32) (P' : Nat → PP) : Prop := ∃ f g R, ppA (P a) f ∧ ppA (P b) g ∧ ((f = p0 ∧ R = g) ∨ (f ≠ p0 ∧ g = p0 ∧ R = f) ∨ (f ≠ p0 ∧ g ≠ p0 ∧ Gcd R f g)) ∧ keepA P t R v P'
/-- a slot's polynomial without its content, in a row -/
theorem pp_row {x r j : Nat} {P : Nat → PP} (hx : isX6 K x) (hs : Slots x I L A P) (hj : j < 8) (hr : isRow K r) (hrj : r ≠ sl x j) {Q : TI → TL → TA → Prop} (hq : ∀ (I' : TI) (L' : TL) (A' : TA) (d : Nat), ppA (P j) (pl L' r) → RowN I' L' r d → sm7 (pl L' r) → ChR (· = r) I I' L L' → A' = A → Q I' L' A') :
    ∃ P1 : TI → TL → TA → Prop, ConV K yX4_become wsX4_become 1 40 I L A [.ref r, .ref (sl x j)] P1 ∧ ∀ (I1 : TI) (L1 : TL) (A1 : TA), P1 I1 L1 A1 → ∃ P2 : TI → TL → TA → Prop, ConV K yX4_makePrimitive wsX4_makePrimitive 3 93 I1 L1 A1 [.ref r] P2 ∧ ∀ (I2 : TI) (L2 : TL) (A2 : TA), P2 I2 L2 A2 → Q I2 L2 A2 := by
  refine ⟨_, s_become hr (hx.2.2.1 j hj), ?_⟩
  rintro I1 L1 A1 ⟨rfl, rfl, rfl⟩
  have hpl : pl (us L (r + 1) (L (sl x j + 1))) r = P j := by rw [← (hs j hj).2.2.1]; unfold pl; rw [us_self]
  have hn : RowN (u2 I r 1 (I (sl x j) 1)) (us L (r + 1) (L (sl x j + 1))) r (lnP (P j) 7) := ⟨⟨by rw [u2_self]; exact (hs j hj).2.1.1.1, (hs j hj).2.1.1.2.1, by rw [us_self]; exact (hs j hj).2.1.1.2.2⟩, fun e he => by rw [hpl, ← (hs j hj).2.2.1]; exact (hs j hj).2.1.2 e he⟩
  have hsm := (hs j hj).2.2.2
  refine ⟨_, s_makePrimitive hr hn.1 (fun k => by rw [hpl]; have := hsm.2 k; omega), ?_⟩
  rintro I2 L2 A2 ⟨hv, hst, hc, rfl⟩
  rw [hpl] at hv
  have hlen := hn.1.2.1
  have hch := ChR.trans become_ch hc
  rcases hl : lnP (P j) 7 with _ | e
  · have hz : P j = p0 := (len_0 hsm.1).mp hl
    rw [hl] at hst hv
    have hz2 : pl L2 r = p0 := funext fun k => hst.dl k (Nat.zero_le k)
    refine hq _ _ _ 0 (Or.inl ⟨hz, hz2⟩) ⟨hst, fun e he => by cases he⟩ (by rw [hz2, ← hz]; exact hsm) hch rfl
  · rw [hl] at hst hv hn
    have hd : dgI (P j) e := by rw [← hpl]; exact hn.dg
    have hpp := pp_of hd hv
    have hs0 := sgd_ne hd.2 hd.ne
    rw [if_neg hs0] at hv
    have hsm2 : sm7 (pl L2 r) := ⟨fun k hk => by
      have := hsm.1 k hk
      rw [hv k] at this
      rcases Int.mul_eq_zero.mp this with q | q
      · exact absurd q hs0
      · exact q, fun k => by
      have h1 := hsm.2 k
      rw [hv k] at h1
      have h2 : (pl L2 r k).natAbs ≤ (sgd (P j) (e + 1) * pl L2 r k).natAbs := by
        rw [Int.natAbs_mul]; exact Nat.le_mul_of_pos_left _ (Int.natAbs_pos.mpr hs0)
      omega⟩
    exact hq _ _ _ (e + 1) hpp ⟨hst, fun e' he => by
      rw [show e' = e by omega]
      exact fun z => hd.1 (by rw [hv e, z]; simp)⟩ hsm2 hch rfl
set_option maxHeartbeats 1000000 in
theorem s_common {x t a b : Nat} {P : Nat → PP} (hx : isX6 K x) (hs : Slots x I L A P) (ht : t < 8) (ha : a < 8) (hb : b < 8) : ConI K yX6_common wsX6_common 5 146 I L A [.ref x, .int (nI t), .int (nI a), .int (nI b)] (fun v I' L' A' => (∃ P', comA P t a b v P' ∧ Slots x I' L' A P') ∧ FrD x I I' L L' ∧ A' = A) := by
  have h18 := hx.2.2.2.1
  have h20 := hx.2.2.2.2.1
  have h22 := hx.2.2.2.2.2.1
  have bda := sl_bd (x := x) ha
  have bdb := sl_bd (x := x) hb
  apply w_X6_common
  unfold wp_X6_common
  refine ⟨_, s_checkThreeSlots ht ha hb, ?_⟩
  rintro I1 L1 A1 ⟨rfl, rfl, rfl⟩
  refine ⟨hx.1, hx.slot ha rfl, h20.1, ?_⟩
  rw [ixn (k := a) (by omega), ixn (k := b) (by omega), (hs a ha).1]
  refine pp_row hx hs ha h20 (by omega) (fun I2 L2 A2 d2 hpa hna hsa hc2 hA2 => ⟨hx.slot hb rfl, h22.1, ?_⟩)
  have hs2 := hs.ch hx hc2 (fun j hj z => by have := sl_bd (x := x) hj; omega)
  rw [hA2, (hs b hb).1]
  refine pp_row hx hs2 hb h22 (by omega) (fun I3 L3 A3 d3 hpb hnb hsb hc3 hA3 => ?_)
  have hs3 := hs2.ch hx hc3 (fun j hj z => by have := sl_bd (x := x) hj; omega)
  have hna3 : RowN I3 L3 (x + 20) d2 := hna.ch hc3 (by omega)
  have hpl3 : pl L3 (x + 20) = pl L2 (x + 20) := pl_keep (hc3.l (by omega))
  rw [← hpl3] at hpa hsa
  have hfr3 : FrD x I1 I3 L1 L3 := (ChR.fr hc2 (fun r hr => by omega)).trans (ChR.fr hc3 (fun r hr => by omega))
  have hd2 := hna3.1.2.1
  have hd3 := hnb.1.2.1
  -- the end: keep what row 18 holds
  have fin : ∀ (I4 : TI) (L4 : TL) (A4 : TA) (d : Nat), Slots x I4 L4 A1 P → RowN I4 L4 (x + 18) d → FrD x I1 I4 L1 L4 → A4 = A1 → ((pl L3 (x + 20) = p0 ∧ pl L4 (x + 18) = pl L3 (x + 22)) ∨ (pl L3 (x + 20) ≠ p0 ∧ pl L3 (x + 22) = p0 ∧ pl L4 (x + 18) = pl L3 (x + 20)) ∨ (pl L3 (x + 20) ≠ p0 ∧ pl L3 (x + 22) ≠ p0 ∧ Gcd (pl L4 (x + 18)) (pl L3 (x + 20)) (pl L3 (x + 22)))) → wp_X6_common_113 K x (nI t) (nI a) (nI b) I4 L4 A4 (fun v I' L' A' => (∃ P', comA P t a b v P' ∧ Slots x I' L' A1 P') ∧ FrD x I1 I' L1 L' ∧ A' = A1) := by
    intro I4 L4 A4 d hs4 hn4 hfr4 hA4 hR
    subst hA4
    unfold wp_X6_common_113
    refine ⟨hx.1, _, s_keepResult hx hs4 ht hn4, ?_⟩
    rintro v I5 L5 A5 ⟨⟨P', hk, hS'⟩, hc5, rfl⟩
    exact ⟨⟨P', ⟨_, _, _, hpa, hpb, hR, hk⟩, hS'⟩, keep_fr ht hfr4 hc5, rfl⟩
  have z2 : pl L3 (x + 20) = p0 ↔ d2 = 0 := ⟨fun z => by
    rcases d2 with _ | e
    · rfl
    · exact absurd z hna3.dg.ne, fun z => funext fun k => hna3.1.dl k (by omega)⟩
  have z3 : pl L3 (x + 22) = p0 ↔ d3 = 0 := ⟨fun z => by
    rcases d3 with _ | e
    · rfl
    · exact absurd z hnb.dg.ne, fun z => funext fun k => hnb.1.dl k (by omega)⟩
  refine ⟨fun q => ⟨fun q2 => ⟨hx.2.2.2.2.2.2.1, ?_⟩, fun q2 => ⟨h18.1, _, s_become h18 h20, ?_⟩⟩, fun q => ⟨h18.1, _, s_become h18 h22, ?_⟩⟩
  · rw [hna3.1.1, ile, li0, tm1 (by omega)] at q
    rw [hnb.1.1, ile, li0, tm1 (by omega)] at q2
    obtain ⟨m, rfl⟩ : ∃ m, d2 = m + 1 := ⟨d2 - 1, by omega⟩
    obtain ⟨n, rfl⟩ : ∃ n, d3 = n + 1 := ⟨d3 - 1, by omega⟩
    refine ⟨_, s_findCommonZ hx.2.2.2.2.2.2 h18 h20 h22 (by omega) (by omega) (by omega) hna3 hnb hsa hsb.s (ok6_sm hsa hsb), ?_⟩
    rintro I4 L4 A4 ⟨g, d, hg, hgd, hpg, hng, hc4, hA4⟩
    have hs4 := hs3.chm hx hc4 (fun j hj z => by have := sl_bd (x := x) hj; omega)
    refine fin I4 L4 A4 _ hs4 hng (hfr3.trans (hc4.fr (fun r hr => by omega))) (by rw [hA4, hA3]) (Or.inr (Or.inr ⟨fun z => by have := z2.mp z; omega, fun z => by have := z3.mp z; omega, ?_⟩))
    rw [hpg]; exact hg
  · rw [hna3.1.1, ile, li0, tm1 (by omega)] at q
    rw [hnb.1.1, ile, li0, tm1 (by omega)] at q2
    rintro I4 L4 A4 ⟨rfl, rfl, hA4⟩
    have hpl : pl (us L3 (x + 18 + 1) (L3 (x + 20 + 1))) (x + 18) = pl L3 (x + 20) := by unfold pl; rw [us_self]
    exact fin _ _ A4 d2 (hs3.ch hx become_ch (fun j hj z => by have := sl_bd (x := x) hj; omega)) ⟨⟨by rw [u2_self]; exact hna3.1.1, hd2, by rw [us_self]; exact hna3.1.2.2⟩, by rw [hpl]; exact hna3.2⟩ (hfr3.trans (ChR.fr become_ch (fun r hr => by omega))) (by rw [hA4, hA3]) (Or.inr (Or.inl ⟨fun z => by have := z2.mp z; omega, z3.mpr (by omega), hpl⟩))
  · rw [hna3.1.1, ile, li0, tm1 (by omega)] at q
    rintro I4 L4 A4 ⟨rfl, rfl, hA4⟩
    have hpl : pl (us L3 (x + 18 + 1) (L3 (x + 22 + 1))) (x + 18) = pl L3 (x + 22) := by unfold pl; rw [us_self]
    exact fin _ _ A4 d3 (hs3.ch hx become_ch (fun j hj z => by have := sl_bd (x := x) hj; omega)) ⟨⟨by rw [u2_self]; exact hnb.1.1, hd3, by rw [us_self]; exact hnb.1.2.2⟩, by rw [hpl]; exact hnb.2⟩ (hfr3.trans (ChR.fr become_ch (fun r hr => by omega))) (by rw [hA4, hA3]) (Or.inl ⟨z2.mpr (by omega), hpl⟩)
end
