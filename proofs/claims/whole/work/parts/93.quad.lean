/-! POLYNOMIALS OF DEGREE 2 -/
section
variable {K : Cx} {I : TI} {L : TL} {A : TA}
theorem abs_step {f u v x y : Int} {B : Nat} (e : f = u * x + v * y) (hu : u ≠ 0) (huv : v.natAbs ≤ u.natAbs) (hf : f.natAbs ≤ 300) (hy : y.natAbs ≤ B) : x.natAbs ≤ 300 + B := by
  have h1 : (u * x).natAbs ≤ 300 + (v * y).natAbs := by rw [show u * x = f - v * y by omega]; omega
  rw [Int.natAbs_mul, Int.natAbs_mul] at h1
  have h2 : v.natAbs * y.natAbs ≤ u.natAbs * B := Nat.mul_le_mul huv hy
  have hu1 : 1 ≤ u.natAbs := Int.natAbs_pos.mpr hu
  have h3 : 300 ≤ u.natAbs * 300 := Nat.le_mul_of_pos_left _ hu1
  have h4 : u.natAbs * x.natAbs ≤ u.natAbs * (300 + B) := by rw [Nat.mul_add]; omega
  exact Nat.le_of_mul_le_mul_left h4 hu1
/-- of degree 5: the other factor has degree 1 or 0 -/
theorem body_5 {f g : PP} (hf : body f) (hg : dgI g 5) (h : dv g f) : ∀ k, (g k).natAbs ≤ 1800 := by
  obtain ⟨s, hs, es⟩ := h
  obtain ⟨d0, hd0, -⟩ := hf.2.2
  have hs0 : s ≠ p0 := fun z => hd0.ne (by rw [← es, z]; funext k; rw [pm_comm, pm_0l])
  obtain ⟨e, he⟩ := hs.dg hs0
  have h1 : dgI f (5 + e) := by rw [← es]; exact hg.mul he
  have h2 := h1.lt hf.1.1
  have hsl : s = lin (s 1) (s 0) := lin_of (dl_mono he.2 (by omega))
  have hco : ∀ k, f (k + 1) = s 0 * g (k + 1) + s 1 * g k := fun k => by
    have e2 : pm s g = pm (lin (s 1) (s 0)) g := congrArg (fun x => pm x g) hsl
    rw [← es, pm_comm, e2]
    have e1 : lin (s 1) (s 0) = pa (pk0 (s 0)) (px (pk0 (s 1))) := funext fun j => by
      match j with
      | 0 => simp [lin, pa, pk0, px]
      | 1 => simp [lin, pa, pk0, px]
      | j + 2 => simp [lin, pa, pk0, px]
    rw [e1, pm_add_l, pm_c0, pm_x]
    show s 0 * g (k + 1) + pm (pk0 (s 1)) g k = _
    rw [pm_c0]
  have hc0 : f 0 = s 0 * g 0 := by rw [← es]; show g 0 * s 0 = s 0 * g 0; rw [Int.mul_comm]
  have fb : ∀ k, (f k).natAbs ≤ 300 := fun k => by have := hf.1.2 k; omega
  have g6 : g 6 = 0 := hg.2 6 (by omega)
  rcases Nat.lt_or_ge (s 1).natAbs (s 0).natAbs with w | w
  · have hu : s 0 ≠ 0 := fun z => by rw [z] at w; simp at w
    have a0 : (g 0).natAbs ≤ 300 + 0 := abs_step (y := 0) (v := s 1) (by rw [hc0, Int.mul_zero, Int.add_zero]) hu (by omega) (fb 0) (by simp)
    have a1 : (g 1).natAbs ≤ 300 + 300 := abs_step (hco 0) hu (by omega) (fb 1) (by omega)
    have a2 : (g 2).natAbs ≤ 300 + 600 := abs_step (hco 1) hu (by omega) (fb 2) (by omega)
    have a3 : (g 3).natAbs ≤ 300 + 900 := abs_step (hco 2) hu (by omega) (fb 3) (by omega)
    have a4 : (g 4).natAbs ≤ 300 + 1200 := abs_step (hco 3) hu (by omega) (fb 4) (by omega)
    have a5 : (g 5).natAbs ≤ 300 + 1500 := abs_step (hco 4) hu (by omega) (fb 5) (by omega)
    intro k
    match k with
    | 0 => omega
    | 1 => omega
    | 2 => omega
    | 3 => omega
    | 4 => omega
    | 5 => omega
    | k + 6 => rw [hg.2 (k + 6) (by omega)]; simp
  · have hu : s 1 ≠ 0 := fun z => by
      rw [z] at w
      have hz0 : s 0 = 0 := by simp at w; omega
      exact hs0 (by rw [hsl, z, hz0]; funext j; unfold lin p0; split <;> simp)
    have hco' : ∀ k, f (k + 1) = s 1 * g k + s 0 * g (k + 1) := fun k => by rw [hco k]; omega
    have a5 : (g 5).natAbs ≤ 300 + 0 := abs_step (hco' 5) hu w (fb 6) (by rw [g6]; simp)
    have a4 : (g 4).natAbs ≤ 300 + 300 := abs_step (hco' 4) hu w (fb 5) (by omega)
    have a3 : (g 3).natAbs ≤ 300 + 600 := abs_step (hco' 3) hu w (fb 4) (by omega)
    have a2 : (g 2).natAbs ≤ 300 + 900 := abs_step (hco' 2) hu w (fb 3) (by omega)
    have a1 : (g 1).natAbs ≤ 300 + 1200 := abs_step (hco' 1) hu w (fb 2) (by omega)
    have a0 : (g 0).natAbs ≤ 300 + 1500 := abs_step (hco' 0) hu w (fb 1) (by omega)
    intro k
    match k with
    | 0 => omega
    | 1 => omega
    | 2 => omega
    | 3 => omega
    | 4 => omega
    | 5 => omega
    | k + 6 => rw [hg.2 (k + 6) (by omega)]; simp
/-- a division by one of degree 2 whose middle place is at most 10500, or 2100 where degree 6 is divided -/
theorem dOK_quad {f g t : PP} (hf : body f) (hgf : Pf g) (hg0 : g ≠ p0) (hg : dv g f) (h0 : (t 0).natAbs ≤ 300) (ht0 : t 0 ≠ 0) (h1 : (t 1).natAbs ≤ 10500) (h16 : (∃ d, dgI g d ∧ 6 ≤ d) → (t 1).natAbs ≤ 2100) : dOK t 2 g := by
  obtain ⟨b1, b2, b3⟩ := body_bd hf hgf hg
  obtain ⟨d, hd1, hd2, hd3⟩ := dg_ex g 7 b1 hg0
  have hl : lnP g 8 = d + 1 := lnP_of hd3 (fun x hx => by rw [show x = d by omega]; exact hd2) (by omega)
  have hlt : ∀ (B : Nat), (t 1).natAbs ≤ B → 300 ≤ B → ∀ k, k < 2 → (t k).natAbs ≤ B := fun B h h' k hk => by
    match k, hk with
    | 0, _ => omega
    | 1, _ => exact h
  by_cases h6 : d = 6
  · have h12 := h16 ⟨d, ⟨hd2, hd3⟩, by omega⟩
    refine ⟨300, 2100, b3 d ⟨hd2, hd3⟩ (by omega), hlt 2100 h12 (by omega), by rw [hl, h6]; decide, Or.inr ⟨ht0, by decide, ?_, by rw [hl, h6]; decide⟩⟩
    rw [hl, h6]
    have : (t 0).natAbs * (300 * (1 + 2100) ^ (6 + 1 - 2 - 1)) ≤ 300 * (300 * (1 + 2100) ^ (6 + 1 - 2 - 1)) := Nat.mul_le_mul_right _ h0
    have h9 : 300 + 300 * (300 * (1 + 2100) ^ (6 + 1 - 2 - 1)) < 9223372036854775808 := by decide
    exact Nat.lt_of_le_of_lt (Nat.add_le_add_left this 300) h9
  · by_cases h5 : d = 5
    · subst h5
      have h18 := body_5 hf ⟨hd2, hd3⟩ hg
      refine ⟨1800, 10500, h18, hlt 10500 h1 (by omega), by rw [hl]; decide, Or.inr ⟨ht0, by decide, ?_, by rw [hl]; decide⟩⟩
      rw [hl]
      have : (t 0).natAbs * (1800 * (1 + 10500) ^ (5 + 1 - 2 - 1)) ≤ 300 * (1800 * (1 + 10500) ^ (5 + 1 - 2 - 1)) := Nat.mul_le_mul_right _ h0
      have h9 : 1800 + 300 * (1800 * (1 + 10500) ^ (5 + 1 - 2 - 1)) < 9223372036854775808 := by decide
      exact Nat.lt_of_le_of_lt (Nat.add_le_add_left this 1800) h9
    · have hm : ∀ s, s ≤ 3 → 33350 * (1 + 10500) ^ s < 9223372036854775808 := fun s hs => Nat.lt_of_le_of_lt (Nat.mul_le_mul_left _ (Nat.pow_le_pow_right (by omega) hs)) (by decide)
      exact ⟨33350, 10500, b2, hlt 10500 h1 (by omega), hm _ (by omega), Or.inl (hm _ (by omega))⟩
def quad (a b c : Int) : PP := fun k => if k = 0 then c else if k = 1 then b else if k = 2 then a else 0
theorem quad_dg {a b c : Int} (h : a ≠ 0) : dgI (quad a b c) 2 := ⟨h, fun k hk => by unfold quad; rw [if_neg (by omega), if_neg (by omega), if_neg (by omega)]⟩
theorem quad_of {t : PP} (h : dl t 3) : t = quad (t 2) (t 1) (t 0) := funext fun k => by
  unfold quad
  by_cases a : k = 0
  · rw [if_pos a, a]
  · by_cases b : k = 1
    · rw [if_neg a, if_pos b, b]
    · by_cases c : k = 2
      · rw [if_neg a, if_neg b, if_pos c, c]
      · rw [if_neg a, if_neg b, if_neg c]; exact h k (by omega)
theorem quad_prim {a b c : Int} (h : Nat.gcd (Nat.gcd a.natAbs b.natAbs) c.natAbs = 1) : prim (quad a b c) := fun l hl ha => by
  have h0 : l ∣ c := ha 0
  have h1 : l ∣ b := ha 1
  have h2' : l ∣ a := ha 2
  have hl1 := hl.1
  have h2 : l.natAbs ∣ 1 := by
    rw [← h]
    exact Nat.dvd_gcd (Nat.dvd_gcd (Int.natAbs_dvd_natAbs.mpr h2') (Int.natAbs_dvd_natAbs.mpr h1)) (Int.natAbs_dvd_natAbs.mpr h0)
  have := Nat.le_of_dvd (by decide) h2
  omega
theorem prim_quad {a b c : Int} (ha : a ≠ 0) (h : prim (quad a b c)) : Nat.gcd (Nat.gcd a.natAbs b.natAbs) c.natAbs = 1 := by
  have hpos : 0 < Nat.gcd (Nat.gcd a.natAbs b.natAbs) c.natAbs := Nat.gcd_pos_of_pos_left _ (Nat.gcd_pos_of_pos_left _ (Int.natAbs_pos.mpr ha))
  rcases Nat.lt_or_ge 1 (Nat.gcd (Nat.gcd a.natAbs b.natAbs) c.natAbs) with y | y
  · obtain ⟨l, hl, hpl⟩ := pr_ex _ y
    refine absurd (fun k => ?_) (h l hpl)
    have hA : (l : Int) ∣ a := by rw [← Int.natAbs_dvd_natAbs, Int.natAbs_natCast]; exact Nat.dvd_trans hl (Nat.dvd_trans (Nat.gcd_dvd_left _ _) (Nat.gcd_dvd_left _ _))
    have hB : (l : Int) ∣ b := by rw [← Int.natAbs_dvd_natAbs, Int.natAbs_natCast]; exact Nat.dvd_trans hl (Nat.dvd_trans (Nat.gcd_dvd_left _ _) (Nat.gcd_dvd_right _ _))
    have hC : (l : Int) ∣ c := by rw [← Int.natAbs_dvd_natAbs, Int.natAbs_natCast]; exact Nat.dvd_trans hl (Nat.gcd_dvd_right _ _)
    unfold quad
    split
    · exact hC
    · split
      · exact hB
      · split
        · exact hA
        · exact Int.dvd_zero _
  · omega
/-- of degree 2 or 3 without a factor of degree 1 -/
theorem irr_23 {t : PP} {d : Nat} (ht : dgI t d) (h2 : 2 ≤ d) (h3 : d ≤ 3) (hp : prim t) (h1 : ∀ s, dgI s 1 → ¬ dv s t) : Irr t := by
  refine ⟨⟨d, by omega, ht⟩, hp, fun x y hx hy e => ?_⟩
  have hx0 : x ≠ p0 := fun z => ht.ne (by rw [← e, z, pm_0l])
  have hy0 : y ≠ p0 := fun z => ht.ne (by rw [← e, z]; funext k; rw [pm_comm, pm_0l])
  obtain ⟨i, hi⟩ := hx.dg hx0
  obtain ⟨j, hj⟩ := hy.dg hy0
  have hij : i + j = d := (show dgI t (i + j) from by rw [← e]; exact hi.mul hj).uniq ht
  by_cases hi0 : i = 0
  · subst hi0; exact Or.inl hi.2
  · by_cases hj0 : j = 0
    · subst hj0; exact Or.inr hj.2
    · exfalso
      by_cases hi1 : i = 1
      · subst hi1; exact h1 x hi ⟨y, hy, e⟩
      · have : j = 1 := by omega
        subst this; exact h1 y hj ⟨x, hx, by rw [← e]; funext k; rw [pm_comm]⟩
end
