/-! THE REFERENCE: findFirst leaves no factor of degree 1 -/
section
variable {K : Cx} {I : TI} {L : TL} {A : TA}
def lin (u v : Int) : PP := fun k => if k = 0 then v else if k = 1 then u else 0
theorem lin_dg {u v : Int} (h : u ≠ 0) : dgI (lin u v) 1 := ⟨h, fun k hk => by unfold lin; rw [if_neg (by omega), if_neg (by omega)]⟩
theorem lin_prim {u v : Int} (h : Nat.gcd v.natAbs u.natAbs = 1) : prim (lin u v) := fun l hl ha => by
  have h0 : l ∣ v := ha 0
  have h1 : l ∣ u := ha 1
  have hl1 := hl.1
  have h2 : l.natAbs ∣ 1 := by
    rw [← h]
    exact Nat.dvd_gcd (Int.natAbs_dvd_natAbs.mpr h0) (Int.natAbs_dvd_natAbs.mpr h1)
  have := Nat.le_of_dvd (by decide) h2
  omega
theorem deg1_irr {t : PP} (ht : dgI t 1) (hp : prim t) : Irr t := by
  refine ⟨⟨1, by decide, ht⟩, hp, fun x y hx hy e => ?_⟩
  have hx0 : x ≠ p0 := fun z => ht.ne (by rw [← e, z, pm_0l])
  have hy0 : y ≠ p0 := fun z => ht.ne (by rw [← e, z]; funext k; rw [pm_comm, pm_0l])
  obtain ⟨i, hi⟩ := hx.dg hx0
  obtain ⟨j, hj⟩ := hy.dg hy0
  have hij : i + j = 1 := (show dgI t (i + j) from by rw [← e]; exact hi.mul hj).uniq ht
  by_cases hi0 : i = 0
  · subst hi0; exact Or.inl hi.2
  · have : j = 0 := by omega
    subst this; exact Or.inr hj.2
theorem lin_of {t : PP} (h : dl t 2) : t = lin (t 1) (t 0) := funext fun k => by
  unfold lin
  by_cases a : k = 0
  · rw [if_pos a, a]
  · by_cases b : k = 1
    · rw [if_neg a, if_pos b, b]
    · rw [if_neg a, if_neg b]; exact h k (by omega)
theorem low_dvd {t g : PP} (h : dv t g) : t 0 ∣ g 0 := by
  obtain ⟨s, -, es⟩ := h
  exact ⟨s 0, by rw [← es]; rfl⟩
/-- from any divisor one that is primitive with a lead above 0 -/
theorem prim_dv_ex {t g : PP} {d : Nat} (ht : dgI t d) (h : dv t g) : ∃ t1, dgI t1 d ∧ prim t1 ∧ 0 < t1 d ∧ dv t1 g := by
  obtain ⟨c, t1, hc, hp, hd, e⟩ := prim_ex _ t d ht rfl
  have h1 : dv t1 g := dv.trans ⟨pk0 c, Pf.k c, by rw [pm_k_r, e]⟩ h
  rcases Int.lt_or_le 0 (t1 d) with q | q
  · exact ⟨t1, hd, hp, q, h1⟩
  · refine ⟨pc (-1) t1, ⟨by have := hd.1; simp only [pc]; omega, fun k hk => by simp only [pc]; rw [hd.2 k hk]; rfl⟩, fun l hl ha => hp l hl (fun k => ?_), by have := hd.1; simp only [pc]; omega, ?_⟩
    · have := ha k
      simp only [pc] at this
      rw [show -1 * t1 k = -(t1 k) by omega] at this
      exact Int.dvd_neg.mp this
    · obtain ⟨s, hs, es⟩ := h1
      exact ⟨pc (-1) s, hs.c _, by funext k; rw [pm_c_l, pm_c_r, es]; omega⟩
theorem pow33 : 33350 * (1 + 300) ^ 5 < 9223372036854775808 := by decide
/-- a division by one of degree 1 -/
theorem dOK_lin {f g t : PP} (hf : body f) (hgf : Pf g) (hg0 : g ≠ p0) (hg : dv g f) (h0 : (t 0).natAbs ≤ 300) : dOK t 1 g := by
  obtain ⟨h1, h2, h3⟩ := body_bd hf hgf hg
  obtain ⟨d, hd1, hd2, hd3⟩ := dg_ex g 7 h1 hg0
  have hl : lnP g 8 = d + 1 := lnP_of hd3 (fun x hx => by rw [show x = d by omega]; exact hd2) (by omega)
  by_cases h6 : d = 6
  · refine ⟨300, 300, h3 d ⟨hd2, hd3⟩ (by omega), fun k hk => by rw [show k = 0 by omega]; exact h0, ?_, Or.inl ?_⟩
    · rw [hl, h6]; decide
    · rw [hl, h6]; decide
  · have hm : ∀ s, s ≤ 5 → 33350 * (1 + 300) ^ s < 9223372036854775808 := fun s hs => Nat.lt_of_le_of_lt (Nat.mul_le_mul_left _ (Nat.pow_le_pow_right (by omega) hs)) pow33
    exact ⟨33350, 300, h2, fun k hk => by rw [show k = 0 by omega]; exact h0, hm _ (by omega), Or.inl (hm _ (by omega))⟩
theorem ok_lin {f g t : PP} (hf : body f) (hg : dv g f) (hte : (t 1).natAbs ≤ 300) (h0 : (t 0).natAbs ≤ 300) : ∀ g', dv g' g → Pf g' → g' ≠ p0 → dl g' 8 ∧ dOK t 1 g' ∧ ∀ k, (t 1 * g' k).natAbs < 9223372036854775808 := fun g' h1 h2 h3 => by
  have hb := body_bd hf h2 (h1.trans hg)
  exact ⟨dl_mono hb.1 (by omega), dOK_lin hf h2 h3 (h1.trans hg) h0, fun k => by have := mul_ab hte (hb.2.1 k); omega⟩
theorem m_isRoot {m e : Nat} {t g : PP} (hm : isX7 K m) (ht : rp L m 10 = t) (hg : rp L m 8 = g) (hg0 : g ≠ p0) (hte : dgI t e) (he : 0 < e) (hok : dOK t e g) (hq : ∀ s, dv s g → Pf s → s ≠ p0 → ∀ k, (t e * s k).natAbs < 9223372036854775808) : ConI K yX7_isRoot wsX7_isRoot 3 74 I L A [.ref m, .int (nI 8)] (fun v I' L' A' => ((v = 1 ∧ dv t g) ∨ (v = 0 ∧ ¬ dv t g)) ∧ RU m (fun s => s = 9 ∨ s = 11) L L' ∧ I' = I ∧ A' = A) := by
  apply w_X7_isRoot
  unfold wp_X7_isRoot
  refine ⟨hm.1, _, m_degreeOf hm (show 8 < 30 by omega), ?_⟩
  rintro v I1 L1 A1 ⟨rfl, rfl, rfl, rfl⟩
  have hle := lnP_le g 8
  have hg8 : dl g 8 := by rw [← hg]; exact rp_dl L1 m 8
  rw [hg]
  refine ⟨fun z => ?_, fun z => ?_⟩
  · rw [ilt, tm1 (by omega), li1] at z
    refine ⟨Or.inr ⟨rfl, fun w => ?_⟩, RU.refl _ _ _, rfl, rfl⟩
    have := w.len hte hg8 hg0
    omega
  · obtain ⟨MA, MB, d1, d2, d3, d4⟩ := hok
    refine ⟨_, m_divides (y := 10) (a := 8) (e := e) (da := lnP g 8) (MA := MA) (MB := MB) hm (by decide) (by decide) (by decide) (by decide) (by decide) (by decide) (by rw [ht]; exact hte) (by rw [hg]) (by rw [hg]; exact d1) (by rw [ht]; exact d2) d3 (by rw [ht]; exact d4), ?_⟩
    rintro v I3 L3 A3 ⟨hv, hru3, rfl, rfl⟩
    rw [hg, ht] at hv
    refine ⟨fun z2 => ⟨Or.inr ⟨rfl, fun ⟨s, hs, es⟩ => ?_⟩, hru3, rfl, rfl⟩, fun z2 => ⟨Or.inl ⟨rfl, ?_⟩, hru3, rfl, rfl⟩⟩
    · rcases hv with ⟨w, -⟩ | ⟨-, w⟩
      · rw [w] at z2; exact absurd z2 (by decide)
      · have hs0 : s ≠ p0 := fun y => hg0 (by rw [← es, y]; funext j; rw [pm_comm, pm_0l])
        exact w s hs (hq s ⟨t, hte.pf, by rw [← es]; funext j; rw [pm_comm]⟩ hs hs0) es
    · rcases hv with ⟨-, w⟩ | ⟨w, -⟩
      · exact ⟨_, ⟨8, rp_dl L3 m 11⟩, w⟩
      · exact absurd w z2
/-- what the taking apart may write of the ints -/
def FrF (m : Nat) (I I' : TI) : Prop := (∀ y, y ≠ m → y ≠ m + 2 → y ≠ m + 7 → I' y = I y) ∧ ∀ k, k ≠ 2 → k ≠ 14 → k ≠ 15 → k ≠ 16 → k ≠ 17 → I' m k = I m k
theorem FrF.refl (m : Nat) (I : TI) : FrF m I I := ⟨fun _ _ _ _ => rfl, fun _ _ _ _ _ _ => rfl⟩
theorem FrF.trans {m : Nat} {I' I'' : TI} (h : FrF m I I') (h' : FrF m I' I'') : FrF m I I'' := ⟨fun y h1 h2 h3 => (h'.1 y h1 h2 h3).trans (h.1 y h1 h2 h3), fun k h1 h2 h3 h4 h5 => (h'.2 k h1 h2 h3 h4 h5).trans (h.2 k h1 h2 h3 h4 h5)⟩
theorem FrI.f {m : Nat} {I' : TI} (h : FrI m I I') : FrF m I I' := ⟨fun y h1 h2 _ => h.1 y h1 h2, fun k h1 _ _ _ _ => h.2 k h1⟩
/-- rows that the taking apart may write -/
abbrev rT : Nat → Prop := fun s => 8 ≤ s ∧ s < 20
end
