/-! SQUARES modulo p and derivatives -/
section
/-- without squares the common divisor with the derivative is a number -/
theorem sqf_gcd {p n e : Nat} (hp : Pr (p : Int)) {F D G : PP} (hF : Pf F) (hn : md p F n) (hnp : n < p) (hs : sqf p F) (hGp : Pf G) (hG : GcdM p G F D) (hD : cg p D (drv F)) (he : md p G e) : e = 0 := by
  rcases Nat.eq_zero_or_pos e with z | z
  · exact z
  exfalso
  obtain ⟨h, d, hh, hd⟩ := irm_ex hp hGp he z
  have h1 : dmP p h F := hd.trans hG.dx
  have h2 : dmP p h (drv F) := (hd.trans hG.dy).of_cg hD.symm
  obtain ⟨t, ht, et⟩ := h1
  obtain ⟨m, hm⟩ := ht
  have hdn : d ≤ n := dmP.le hp ⟨t, ⟨m, hm⟩, et⟩ hh.2.1 hn
  have e1 : cg p (drv F) (pa (pm (drv t) h) (pm t (drv h))) := by
    have := cg.drv' et
    rw [drv_mul h m t hm] at this
    exact this
  have h3 : dmP p h (pm t (drv h)) := by
    have h4 : dmP p h (pm (drv t) h) := ⟨drv t, drv_pf ⟨m, hm⟩, cg.refl _ _⟩
    have h5 := h2.of_cg e1.symm
    have h6 := h5.add (h4.c (-1))
    exact h6.of_cg (fun k => by
      show (p : Int) ∣ pm t (drv h) k - (pm (drv t) h k + pm t (drv h) k + -1 * pm (drv t) h k)
      rw [show pm t (drv h) k - (pm (drv t) h k + pm t (drv h) k + -1 * pm (drv t) h k) = 0 by omega]
      exact Int.dvd_zero _)
  rcases irm_dv hp hh ⟨m, hm⟩ (drv_pf hh.1) h3 with w | w
  · obtain ⟨s, hs', es⟩ := w
    refine hs h d hh ⟨s, hs', et.trans ?_⟩
    have := cg.mul_l h es
    rw [pma] at this
    exact this
  · have hd0 := hh.2.2.1
    have h4 : md p (drv h) (d - 1) := by
      refine ⟨fun w => ?_, fun k hk => ?_⟩
      · have w' : (p : Int) ∣ (((d - 1 : Nat) : Int) + 1) * h (d - 1 + 1) := w
        rw [show d - 1 + 1 = d by omega, show (((d - 1 : Nat) : Int) + 1) = (d : Int) by omega] at w'
        rcases hp.2 _ _ w' with q | q
        · have := Int.le_of_dvd (by omega) q
          omega
        · exact hh.2.1.1 q
      · exact Int.dvd_mul_of_dvd_right (hh.2.1.2 (k + 1) (by omega))
    have := w.le hp hh.2.1 h4
    omega
/-- a prime that serves for f and its derivative leaves no squares in f by their common divisor -/
theorem sqf_rest {p dg : Nat} (hp : Pr (p : Int)) {f g r G : PF} (e : (letI := pfR; g * r) = f) (hG : GcdM p G.1 f.1 (drv f.1)) (hGd : md p G.1 dg) (hgd : md p g.1 dg) (hgf : dmP p g.1 (drv f.1)) : sqf p r.1 := fun h d hh hd => by
  have h1 : dmP p g.1 f.1 := ⟨r.1, r.2, by
    have : f.1 = pm g.1 r.1 := by rw [← e]; rfl
    rw [this, pmc]; exact cg.refl _ _⟩
  have h2 : dmP p g.1 G.1 := hG.dvd h1 hgf
  -- then G divides g
  have h3 : dmP p G.1 g.1 := by
    obtain ⟨q, hq, eq⟩ := h2
    obtain ⟨k, hk⟩ := md_of hq (md_mul_r (hGd.of_cg eq)).1
    have := (hk.mul hp hgd).uniq (hGd.of_cg eq)
    have hk0 : k = 0 := by omega
    subst hk0
    have h4 : asc p g.1 G.1 := (asc.c hp hk.1).trans (asc.of_cg ((show cg p (pc (q 0) g.1) (pm q g.1) from by
      have := cg.mul_l g.1 (md0 hk)
      have e2 : pm (pk0 (q 0)) g.1 = pc (q 0) g.1 := funext fun k => pm_c0 _ _ k
      rw [e2] at this
      exact this.symm).trans eq.symm))
    exact h4.2
  obtain ⟨H, hH⟩ : ∃ H : PF, H.1 = h := ⟨⟨h, hh.1⟩, rfl⟩
  obtain ⟨T, hT⟩ : ∃ T : PF, Zc p (letI := pfR; r - H * H * T) := by
    obtain ⟨t, ht, et⟩ := hd
    refine ⟨⟨t, ht⟩, fun k => ?_⟩
    show (p : Int) ∣ r.1 k + -1 * pm (pm H.1 H.1) t k
    have := et k
    rw [pmc] at this
    rw [hH]
    rwa [show r.1 k + -1 * pm (pm h h) t k = r.1 k - pm (pm h h) t k by omega]
  have hi := zc_idl (p : Int)
  have key : ∀ k : Nat, ∃ S : PF, Zc p (letI := pfR; g - H ^ k * S) := by
    intro k
    induction k with
    | zero => exact ⟨g, hi.of hi.1 (by letI := pfR; rw [Lean.Grind.Semiring.pow_zero]; grind)⟩
    | succ k ih =>
      obtain ⟨S, hS⟩ := ih
      have hf : Zc p (letI := pfR; f - H ^ (k + 2) * (S * T)) := by
        rw [← e]
        letI := pfR
        have e3 : H ^ (k + 2) = H ^ k * (H * H) := by rw [Lean.Grind.Semiring.pow_succ, Lean.Grind.Semiring.pow_succ]; grind
        rw [e3]
        refine hi.of (hi.2.1 _ _ (hi.2.2 _ r hS) (hi.2.2 _ (H ^ k * S) hT)) ?_
        grind
      have hdf := (dP_dr (p : Int)).2.2 _ hf
      rw [(dP_dr (p : Int)).sub, (dP_dr (p : Int)).2.1, (dP_dr (p : Int)).pow] at hdf
      have a1 : dmP p (pw h (k + 1)) f.1 := by
        refine ⟨(letI := pfR; H * (S * T)).1, (letI := pfR; H * (S * T)).2, fun j => ?_⟩
        have h5 := hf j
        have e4 : (letI := pfR; H ^ (k + 2) * (S * T)) = (letI := pfR; H * (S * T) * H ^ (k + 1)) := by
          letI := pfR
          rw [Lean.Grind.Semiring.pow_succ]; grind
        rw [e4] at h5
        have h6 : (p : Int) ∣ f.1 j + -1 * pm (letI := pfR; H * (S * T)).1 (pw H.1 (k + 1)) j := h5
        rw [hH] at h6
        rwa [show ∀ x y : Int, x + -1 * y = x - y from fun x y => by omega] at h6
      have a2 : dmP p (pw h (k + 1)) (drv f.1) := by
        refine ⟨(letI := pfR; nmG pfR (k + 2) * dP H * (S * T) + H * dP (S * T)).1, (letI := pfR; nmG pfR (k + 2) * dP H * (S * T) + H * dP (S * T)).2, fun j => ?_⟩
        have h5 := hdf j
        have e4 : (letI := pfR; H ^ (k + 2) * dP (S * T) + S * T * (nmG pfR (k + 1 + 1) * H ^ (k + 1) * dP H)) = (letI := pfR; (nmG pfR (k + 2) * dP H * (S * T) + H * dP (S * T)) * H ^ (k + 1)) := by
          letI := pfR
          rw [Lean.Grind.Semiring.pow_succ]; grind
        rw [e4] at h5
        have h6 : (p : Int) ∣ drv f.1 j + -1 * pm (letI := pfR; nmG pfR (k + 2) * dP H * (S * T) + H * dP (S * T)).1 (pw H.1 (k + 1)) j := h5
        rw [hH] at h6
        rwa [show ∀ x y : Int, x + -1 * y = x - y from fun x y => by omega] at h6
      obtain ⟨s, hs, es⟩ := (hG.dvd a1 a2).trans h3
      refine ⟨⟨s, hs⟩, fun j => ?_⟩
      have h7 := es j
      rw [pmc] at h7
      show (p : Int) ∣ g.1 j + -1 * pm (pw H.1 (k + 1)) s j
      rw [hH]
      rwa [show g.1 j + -1 * pm (pw h (k + 1)) s j = g.1 j - pm (pw h (k + 1)) s j by omega]
  obtain ⟨S, hS⟩ := key (dg + 1)
  have h8 : dmP p (pw h (dg + 1)) g.1 := ⟨S.1, S.2, fun j => by
    have h5 : (p : Int) ∣ g.1 j + -1 * pm (pw H.1 (dg + 1)) S.1 j := hS j
    rw [hH] at h5
    rw [pmc]
    rwa [show g.1 j + -1 * pm (pw h (dg + 1)) S.1 j = g.1 j - pm (pw h (dg + 1)) S.1 j by omega] at h5⟩
  have := h8.le hp (pw_md hp hh.2.1 (dg + 1)) hgd
  have h9 : (dg + 1) * 1 ≤ (dg + 1) * d := Nat.mul_le_mul_left _ hh.2.2.1
  omega
end
