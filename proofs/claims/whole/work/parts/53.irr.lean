/-! IRREDUCIBLE ONES; what is unique -/
section
theorem dl1 {f : PP} (h : dl f 1) : f = pk0 (f 0) := funext fun k => by
  cases k with
  | zero => rfl
  | succ k => exact h (k + 1) (by omega)
theorem dgI0 {f : PP} (h : dgI f 0) : f = pk0 (f 0) := dl1 h.2
/-- of a degree above 0, primitive, and no product of two of degrees above 0 -/
def Irr (f : PP) : Prop := (∃ d, 0 < d ∧ dgI f d) ∧ prim f ∧ ∀ x y, Pf x → Pf y → pm x y = f → dl x 1 ∨ dl y 1
theorem dv_of_c {q x : PP} (hq : prim q) (hx : Pf x) {c : Int} (hc : c ≠ 0) (h : dv q (pc c x)) : dv q x := gauss hq hx _ c rfl hc h
/-- EUCLID -/
theorem irr_dv {q x y : PP} (hq : Irr q) (hx : Pf x) (hy : Pf y) (h : dv q (pm x y)) : dv q x ∨ dv q y := by
  obtain ⟨⟨dq, hdq, hqd⟩, hqp, hqi⟩ := hq
  obtain ⟨g, u, v, e, d, hgp, hgd, he, hu, hv, hgq, hgx, heq⟩ := bezout hqd.pf hx (Or.inl hqd.ne)
  obtain ⟨k, hk, hgk⟩ := hgq
  rcases hqi g k hgd.pf hk hgk with r | r
  · right
    have hg0 : d = 0 := by have := hgd.lt r; omega
    subst hg0
    have hc : e * g 0 ≠ 0 := Int.mul_ne_zero he hgd.1
    refine dv_of_c hqp hy hc ?_
    have e1 : pc (e * g 0) y = pa (pm (pm u y) q) (pm v (pm x y)) := by
      funext j
      have e2 : pc (e * g 0) y = pm (pc e g) y := by
        rw [dgI0 hgd]
        funext j
        rw [pm_c_l, pm_c0]
        simp only [pc, pk0]
        rw [Int.mul_assoc]
      rw [e2, heq, pm_add_l, pm_assoc, pm_assoc]
      simp only [pa]
      have e3 : pm u (pm q y) j = pm (pm u y) q j := by
        rw [pm_assoc, show pm q y = pm y q from funext fun i => pm_comm i q y]
      rw [e3]
    rw [e1]
    refine dv.add ?_ (h.mul_r hv)
    exact (dv.refl q).mul_r (hu.mul hy)
  · left
    have ek := dl1 r
    have hk0 : k 0 ≠ 0 := fun z => hqd.ne (by rw [← hgk, ek, z]; funext j; rw [pm_k_r]; simp [pc, p0])
    obtain ⟨s, hs, hgs⟩ := hgx
    refine dv_of_c hqp hx hk0 ⟨s, hs, ?_⟩
    rw [← hgk, ek, pm_k_r]
    funext j
    rw [pm_c_l, hgs]
    rfl
/-- a common divisor that none passes -/
def Gcd (g x y : PP) : Prop := prim g ∧ dv g x ∧ dv g y ∧ ∃ d, dgI g d ∧ 0 < g d ∧ ∀ h n, dv h x → dv h y → dgI h n → n ≤ d
theorem prim_same {f g : PP} {d : Nat} (hf : prim f) (hg : prim g) (hfd : dgI f d) (hgd : dgI g d) (h : dv f g) : ∃ k : Int, (k = 1 ∨ k = -1) ∧ g = pc k f := by
  obtain ⟨q, hq, e⟩ := h
  have hq0 : q ≠ p0 := fun z => hgd.ne (by rw [← e, z]; funext k; rw [pm_comm, pm_0l])
  obtain ⟨n, hn⟩ := hq.dg hq0
  have h1 : d + n = d := (show dgI g (d + n) from by rw [← e]; exact hfd.mul hn).uniq hgd
  have hn0 : n = 0 := by omega
  subst hn0
  have e2 : g = pc (q 0) f := by rw [← e, dgI0 hn, pm_k_r]; rfl
  refine ⟨q 0, ?_, e2⟩
  by_cases h1 : (q 0).natAbs = 1
  · omega
  · have h2 : 1 < (q 0).natAbs := by
      have := Int.natAbs_pos.mpr hn.1
      omega
    obtain ⟨l, hl, hp⟩ := pr_ex _ h2
    refine absurd ?_ (hg l hp)
    intro k
    rw [e2]
    refine Int.dvd_mul_of_dvd_left ?_
    rw [← Int.natAbs_dvd_natAbs, Int.natAbs_natCast]
    exact hl
theorem gcd_unique {f g x y : PP} (hx : Pf x) (hy : Pf y) (h0 : x ≠ p0 ∨ y ≠ p0) (hf : Gcd f x y) (hg : Gcd g x y) : f = g := by
  obtain ⟨b, u, v, e, d, hbp, hbd, he, hu, hv, hbx, hby, heq⟩ := bezout hx hy h0
  have key : ∀ f, Gcd f x y → ∃ k : Int, (k = 1 ∨ k = -1) ∧ b = pc k f ∧ dgI f d ∧ 0 < f d := by
    intro f hf
    obtain ⟨hfp, hfx, hfy, n, hfn, hpos, hmax⟩ := hf
    have h1 : dv f (pc e b) := by rw [heq]; exact (hfx.mul_r hu).add (hfy.mul_r hv)
    have h2 := dv_of_c hfp hbd.pf he h1
    have h3 := hmax b d hbx hby hbd
    have h4 := h2.le hfn hbd
    have h5 : n = d := by omega
    subst h5
    obtain ⟨k, hk, e⟩ := prim_same hfp hbp hfn hbd h2
    exact ⟨k, hk, e, hfn, hpos⟩
  obtain ⟨k, hk, e1, h1, h1p⟩ := key f hf
  obtain ⟨k', hk', e2, h2, h2p⟩ := key g hg
  funext j
  have q1 := congrFun e1 d
  have q2 := congrFun e2 d
  have r1 := congrFun e1 j
  have r2 := congrFun e2 j
  simp only [pc] at q1 q2 r1 r2
  rcases hk with rfl | rfl <;> rcases hk' with rfl | rfl <;> omega
/-- no common divisor of a degree above 0: then a constant is a combination -/
theorem coprime_bz {x y : PP} (hx : Pf x) (hy : Pf y) (h0 : x ≠ p0 ∨ y ≠ p0) (h : ∀ q d, Irr q → dgI q d → dv q x → ¬ dv q y) : ∃ (u v : PP) (c : Int), c ≠ 0 ∧ Pf u ∧ Pf v ∧ pk0 c = pa (pm u x) (pm v y) := by
  obtain ⟨b, u, v, e, d, hbp, hbd, he, hu, hv, hbx, hby, heq⟩ := bezout hx hy h0
  by_cases hd : d = 0
  · subst hd
    refine ⟨u, v, e * b 0, Int.mul_ne_zero he hbd.1, hu, hv, ?_⟩
    rw [← heq, dgI0 hbd]
    funext k
    cases k <;> simp [pk0, pc]
  · -- the divisor of least degree above 0 is irreducible
    obtain ⟨n, ⟨q, hq0, hqd, hqb⟩, hmin⟩ := least (P := fun n => ∃ q, 0 < n ∧ dgI q n ∧ dv q b) d ⟨b, by omega, hbd, dv.refl b⟩
    have hqp : prim q := by
      intro l hl ha
      obtain ⟨s, hs, es⟩ := hqb
      refine hbp l hl (fun k => ?_)
      rw [← es, pm_comm]
      exact low0 q k s (fun b _ => ha b)
    have hirr : Irr q := by
      refine ⟨⟨n, hq0, hqd⟩, hqp, fun x y hx hy e => ?_⟩
      have hx0 : x ≠ p0 := fun z => hqd.ne (by rw [← e, z, pm_0l])
      have hy0 : y ≠ p0 := fun z => hqd.ne (by rw [← e, z]; funext k; rw [pm_comm, pm_0l])
      obtain ⟨i, hi⟩ := hx.dg hx0
      obtain ⟨j, hj⟩ := hy.dg hy0
      have hij : i + j = n := (show dgI q (i + j) from by rw [← e]; exact hi.mul hj).uniq hqd
      by_cases hi0 : i = 0
      · subst hi0; exact Or.inl hi.2
      · by_cases hj0 : j = 0
        · subst hj0; exact Or.inr hj.2
        · exact absurd ⟨x, by omega, hi, dv.trans ⟨y, hy, e⟩ hqb⟩ (hmin i (by omega))
    exact absurd (hqb.trans hby) (h q n hirr hqd (hqb.trans hbx))
end
