/-! QUOTIENTS of residues; products of irreducible polynomials of one degree -/
section
theorem quot_ex {p e : Nat} (hp : Pr (p : Int)) {R G O r : PP} (hO : Pf O) (h : cg p R (pa (pm O G) r)) (hr : dl r e) (hG : md p G e) (hd : dmP p G R) : cg p R (pm O G) := by
  have h1 : dmP p G r := by
    have h2 : dmP p G (pm O G) := ⟨O, hO, cg.refl _ _⟩
    have h3 : dmP p G (pa (pm O G) r) := hd.of_cg h.symm
    have h4 := h3.add (h2.c (-1))
    exact h4.of_cg (fun k => by
      show (p : Int) ∣ r k - (pm O G k + r k + -1 * pm O G k)
      rw [show r k - (pm O G k + r k + -1 * pm O G k) = 0 by omega]; exact Int.dvd_zero _)
  have h2 : al p r := Classical.byContradiction fun w => by
    obtain ⟨n, hn, hm⟩ := md_ex e hr w
    have := h1.le hp hG hm
    omega
  refine h.trans (fun k => ?_)
  show (p : Int) ∣ pm O G k + r k - pm O G k
  rw [show pm O G k + r k - pm O G k = r k by omega]; exact h2 k
theorem md_dg {p n : Nat} {f : PP} (h : rsd p f) (hn : md p f n) : dgI f n := ⟨fun z => hn.1 (by rw [z]; exact Int.dvd_zero _), fun k hk => by
  have h1 := h k
  obtain ⟨c, hc⟩ := hn.2 k (by omega)
  rcases Int.lt_trichotomy c 0 with q | q | q
  · have := Int.mul_le_mul_of_nonneg_left (show c ≤ -1 by omega) (show (0 : Int) ≤ p by omega)
    omega
  · rw [hc, q, Int.mul_zero]
  · have := Int.mul_le_mul_of_nonneg_left (show 1 ≤ c by omega) (show (0 : Int) ≤ p by omega)
    omega⟩
theorem quot_lead {p e E : Nat} (hp : Pr (p : Int)) {R G O : PP} (hO : Pf O) (h : cg p R (pm O G)) (rO : rsd p O) (hG : dgI G e) (lG : G e = 1) (hR : md p R E) (lR : R E = 1) : e ≤ E ∧ dgI O (E - e) ∧ O (E - e) = 1 := by
  have hm := hR.of_cg h
  have hGm : md p G e := ⟨by rw [lG]; exact hp.n1, fun k hk => by rw [hG.2 k (by omega)]; exact Int.dvd_zero _⟩
  obtain ⟨d, hd⟩ := md_of hO (md_mul_r hm).1
  have hsum := (hd.mul hp hGm).uniq hm
  have hOd := md_dg rO hd
  have hde : d = E - e := by omega
  subst hde
  refine ⟨by omega, hOd, ?_⟩
  have h1 := pm_top _ _ _ _ hOd.2 hG.2
  rw [lG, Int.mul_one, hsum] at h1
  have h2 := h E
  rw [h1, lR] at h2
  have h3 := rO (E - e)
  obtain ⟨c, hc⟩ := h2
  have hp1 := hp.1
  rcases Int.lt_trichotomy c 0 with q | q | q
  · have := Int.mul_le_mul_of_nonneg_left (show c ≤ -1 by omega) (show (0 : Int) ≤ p by omega)
    omega
  · rw [q] at hc; omega
  · have := Int.mul_le_mul_of_nonneg_left (show 1 ≤ c by omega) (show (0 : Int) ≤ p by omega)
    omega
theorem sd_dvd {p d : Nat} (hp : Pr (p : Int)) : ∀ (n : Nat) (g : PF), Sd p d g → md p g.1 n → d ∣ n := by
  intro n
  induction n using Nat.strongRecOn with
  | _ n ih =>
    intro g hg hn
    rcases Nat.eq_zero_or_pos n with z | z
    · rw [z]; exact Nat.dvd_zero _
    · obtain ⟨h, D, hh, hdv⟩ := irm_ex hp g.2 hn z
      have hD := hg.2.2 h D hh hdv
      subst hD
      obtain ⟨q, hq, eq⟩ := hdv
      have hm := hn.of_cg eq
      obtain ⟨e, he⟩ := md_of hq (md_mul_r hm).1
      have hsum := (he.mul hp hh.2.1).uniq hm
      have hd0 := hh.2.2.1
      have hqd : dmP p q g.1 := ⟨h, hh.1, by rw [pmc]; exact eq⟩
      have := ih e (by omega) ⟨q, hq⟩ (hg.of_dv hqd ⟨e, he⟩) he
      rw [← hsum]
      exact Nat.dvd_add this (Nat.dvd_refl _)
theorem DStp.sd {p n e : Nat} (hp : Pr (p : Int)) {R G R' : PP} (hn : 0 < n) (h : DStp p n R G R') (hs : sqf p R) (hm : minD p n R) (he : md p G e) {g : PF} (hg : g.1 = G) : Sd p n g := by
  refine ⟨⟨e, by rw [hg]; exact he⟩, by rw [hg]; exact hs.of_dv h.2.2.1.dy, fun h' D hh hd => ?_⟩
  rw [hg] at hd
  exact h.facs hp hn hm h' D hh hd
theorem asc.mul {p : Int} {f f' g : PP} (h : asc p f f') (hg : Pf g) : asc p (pm f g) (pm f' g) := by
  obtain ⟨⟨a, ha, ea⟩, b, hb, eb⟩ := h
  refine ⟨⟨a, ha, ?_⟩, b, hb, ?_⟩
  · have := cg.mul_l g ea
    rw [pma] at this; exact this
  · have := cg.mul_l g eb
    rw [pma] at this; exact this
theorem sd_irr {p d : Nat} (hp : Pr (p : Int)) {g : PF} (h : IrM p g.1 d) : Sd p d g := ⟨⟨d, h.2.1⟩, fun h' D hh hd => by
  obtain ⟨q, hq, eq⟩ := hd
  have hm := h.2.1.of_cg eq
  have h2 := hh.2.1.mul hp hh.2.1
  obtain ⟨e, he⟩ := md_of hq (md_mul_r hm).1
  have hsum := (he.mul hp h2).uniq hm
  have hdv : dmP p h' g.1 := ⟨pm q h', hq.mul hh.1, by rw [pma]; exact eq⟩
  have := h.2.2.2 h' D hh.1 hh.2.1 hdv
  have := hh.2.2.1
  omega, fun h' D hh hd => by
  have := h.2.2.2 h' D hh.1 hh.2.1 hd
  have := hh.2.2.1
  omega⟩
end
