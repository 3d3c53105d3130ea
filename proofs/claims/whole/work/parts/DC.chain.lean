/-! THE CHAIN OF DEGREES, cut short -/
section
theorem gcdm_comm {p : Int} {G x y : PP} (h : GcdM p G x y) : GcdM p G y x := by
  obtain ⟨⟨u, v, hu, hv, e⟩, h2, h3⟩ := h
  exact ⟨⟨v, u, hv, hu, by rw [pa_comm]; exact e⟩, h3, h2⟩
/-- a common divisor that is a number changes nothing -/
theorem dstp_unit {p i : Nat} (hp : Pr (p : Int)) {R G : PP} (hR : Pf R) (hG : Pf G) (hg : GcdM p G (xq p i) R) (h0 : md p G 0) : DStp p i R G R := by
  refine ⟨hG, hR, hg, ?_⟩
  refine (asc.c hp h0.1 (f := R)).trans (asc.of_cg ?_)
  have := cg.mul_l R (md0 h0)
  have e2 : pm (pk0 (G 0)) R = pc (G 0) R := funext fun k => pm_c0 _ _ k
  rw [e2] at this
  exact this.symm
theorem chn_skip {p E : Nat} (hp : Pr (p : Int)) {F R : PP} {l : List Nat} (hR : IrM p R E) : ∀ k n, n + k + 1 = E → Chn p F n R l → Chn p F (n + k) R l
  | 0, _, _, h => h
  | k + 1, n, hk, h => by
    obtain ⟨m, hm⟩ := hR.1
    obtain ⟨G, hG, hg⟩ := gm_ex hp m (xq p (n + 1)) R (xq_pf p (n + 1)) hm
    obtain ⟨e, he⟩ : ∃ e, md p G e := by
      refine md_of hG (fun z => hR.2.1.nal ?_)
      obtain ⟨s, hs, es⟩ := hg.dy
      have := es.trans (cg.mul_r s (al_cg z))
      rw [pmc s p0, pm_0l] at this
      exact this.alof (fun k => Int.dvd_zero _)
    rcases hR.2.2.2 G e hG he hg.dy with z | z
    · subst z
      have h1 := h.step (dstp_unit hp hR.1 hG hg he) he
      rw [Nat.zero_div, List.replicate_zero, List.append_nil] at h1
      have := chn_skip hp hR k (n + 1) (by omega) h1
      rw [show n + (k + 1) = n + 1 + k by omega]; exact this
    · subst z
      exfalso
      -- then R divides it
      obtain ⟨q, hq, eq⟩ := hg.dy
      obtain ⟨f, hf⟩ := md_of hq (md_mul_r (hR.2.1.of_cg eq)).1
      have := (hf.mul hp he).uniq (hR.2.1.of_cg eq)
      have hf0 : f = 0 := by omega
      subst hf0
      have h1 : asc p G R := (asc.c hp hf.1).trans (asc.of_cg ((show cg p (pc (q 0) G) (pm q G) from by
        have := cg.mul_l G (md0 hf)
        have e2 : pm (pk0 (q 0)) G = pc (q 0) G := funext fun k => pm_c0 _ _ k
        rw [e2] at this
        exact this.symm).trans eq.symm))
      have h2 : dmP p R (xq p (n + 1)) := h1.2.trans hg.dx
      have := xq_ge hp hR (by omega) h2
      omega
theorem chn_fin {p n E : Nat} (hp : Pr (p : Int)) {F R : PP} {l : List Nat} (h : Chn p F n R l) (hR : Pf R) (hm : minD p (n + 1) R) (hE : md p R E) (h2 : E < 2 * (n + 1)) : ∃ n' R', Chn p F n' R' (l ++ if E = 0 then [] else [E]) ∧ md p R' 0 := by
  rcases Nat.eq_zero_or_pos E with z | z
  · subst z
    refine ⟨n, R, ?_, hE⟩
    rw [if_pos rfl, List.append_nil]; exact h
  · have hir := hm.irr hp hR hE z h2
    have hle := hm.le hp hR hE z
    have h3 := chn_skip hp hir (E - n - 1) n (by omega) h
    rw [show n + (E - n - 1) = E - 1 by omega] at h3
    have h1' : md p (pk0 1) 0 := ⟨hp.n1, fun k hk => by cases k with
      | zero => omega
      | succ k => exact Int.dvd_zero _⟩
    have hst : DStp p (E - 1 + 1) R R (pk0 1) := by
      rw [show E - 1 + 1 = E by omega]
      refine ⟨hR, Pf.k 1, ⟨In.y p _ _, xq_dv hp hir, ⟨pk0 1, Pf.k 1, by rw [pm_1l]; exact cg.refl _ _⟩⟩, ?_⟩
      rw [pm_1r]; exact asc.refl _ _
    have h4 := h3.step hst hE
    refine ⟨E - 1 + 1, pk0 1, ?_, h1'⟩
    rw [if_neg (by omega)]
    rw [show E - 1 + 1 = E by omega] at h4 ⊢
    rw [Nat.div_self z] at h4
    exact h4
end
