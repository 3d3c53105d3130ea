/-! THE RADICAL: a polynomial by its common divisor with the derivative has the same irreducible divisors -/
section
theorem irr_drv {t : PP} (ht : Irr t) : ¬ dv t (drv t) := fun h => by
  obtain ⟨d, hd0, hd⟩ := ht.1
  have h1 : dgI (drv t) (d - 1) := by
    refine ⟨?_, fun k hk => ?_⟩
    · show (((d - 1 : Nat) : Int) + 1) * t (d - 1 + 1) ≠ 0
      rw [show d - 1 + 1 = d by omega]
      exact Int.mul_ne_zero (by omega) hd.1
    · show _ * t (k + 1) = 0
      rw [hd.2 (k + 1) (by omega), Int.mul_zero]
  have := h.le hd h1
  omega
theorem irr_k {t : PP} (ht : Irr t) {c : Int} (hc : c ≠ 0) : ¬ dv t (pk0 c) := fun h => by
  obtain ⟨d, hd0, hd⟩ := ht.1
  have h1 : dgI (pk0 c) 0 := ⟨hc, fun k hk => by cases k with
    | zero => omega
    | succ k => rfl⟩
  have := h.le hd h1
  omega
theorem dvF {a b q : PF} (e : (letI := pfR; a * q) = b) : dv a.1 b.1 := ⟨q.1, q.2, by rw [← e]; rfl⟩
theorem rad {f g r q t : PF} (ht : Irr t.1) (e : (letI := pfR; g * r) = f) (hq : (letI := pfR; g * q) = dP f) (hg0 : g.1 ≠ p0) (h : dv t.1 f.1) : dv t.1 r.1 := Classical.byContradiction fun hr => by
  have hdr := dP_dr (1 : Int)
  have tn0 : t.1 ≠ p0 := by obtain ⟨d, _, hd⟩ := ht.1; exact hd.ne
  have cancel : ∀ {a b c : PF}, a.1 ≠ p0 → (letI := pfR; a * b) = (letI := pfR; a * c) → b = c := fun {a b c} ha h => Subtype.ext (pm_cancel a.2 ha b.2 c.2 (congrArg Subtype.val h))
  have key : ∀ k : Nat, ∃ s : PF, (letI := pfR; t ^ (k + 1) * s) = g := by
    intro k
    induction k with
    | zero =>
      have h1 : dv t.1 (pm g.1 r.1) := by
        have : f.1 = pm g.1 r.1 := by rw [← e]; rfl
        rw [← this]; exact h
      rcases irr_dv ht g.2 r.2 h1 with w | w
      · obtain ⟨s, hs, es⟩ := w
        refine ⟨⟨s, hs⟩, Subtype.ext ?_⟩
        show pm (pw t.1 1) s = g.1
        have : pw t.1 1 = t.1 := pm_1r _
        rw [this]; exact es
      · exact absurd w hr
    | succ k ih =>
      obtain ⟨s, hs⟩ := ih
      -- g divides g' r
      have e1 : (letI := pfR; g * (q - dP r)) = (letI := pfR; dP g * r) := by
        have h2 := hdr.2.1 g r
        rw [e, ← hq] at h2
        letI := pfR
        grind
      have e2 : dP g = (letI := pfR; t ^ k * (nmG pfR (k + 1) * dP t * s + t * dP s)) := by
        rw [← hs, hdr.2.1, hdr.pow]
        letI := pfR
        rw [Lean.Grind.Semiring.pow_succ]
        grind
      have tk0 : (letI := pfR; t ^ k).1 ≠ p0 := by
        have : ∀ k, pw t.1 k ≠ p0 := by
          intro k
          obtain ⟨d, _, hd⟩ := ht.1
          exact (pw_dg hd k).ne
        exact this k
      have e3 : (letI := pfR; t * s * (q - dP r)) = (letI := pfR; (nmG pfR (k + 1) * dP t * s + t * dP s) * r) := by
        apply cancel tk0
        rw [e2, ← hs] at e1
        letI := pfR
        rw [Lean.Grind.Semiring.pow_succ] at e1
        grind
      have h3 : dv t.1 (letI := pfR; (nmG pfR (k + 1) * (dP t * (s * r)))).1 := by
        refine dvF (q := letI := pfR; s * (q - dP r) - dP s * r) ?_
        letI := pfR
        grind
      rcases irr_dv ht (nmG pfR (k + 1)).2 (letI := pfR; dP t * (s * r)).2 h3 with w | w
      · rw [nm_pf] at w
        exact absurd w (irr_k ht (by omega))
      · rcases irr_dv ht (dP t).2 (letI := pfR; s * r).2 w with w | w
        · exact absurd w (irr_drv ht)
        · rcases irr_dv ht s.2 r.2 w with w | w
          · obtain ⟨s', hs', es⟩ := w
            refine ⟨⟨s', hs'⟩, ?_⟩
            have e4 : s = (letI := pfR; t * ⟨s', hs'⟩) := Subtype.ext es.symm
            rw [← hs, e4]
            letI := pfR
            rw [Lean.Grind.Semiring.pow_succ]
            grind
          · exact absurd w hr
  obtain ⟨d, hd0, hd⟩ := ht.1
  obtain ⟨m, hm⟩ := g.2.dg hg0
  obtain ⟨s, hs⟩ := key m
  have h4 : dv (pw t.1 (m + 1)) g.1 := dvF hs
  have := h4.le (pw_dg hd (m + 1)) hm
  have h5 : (m + 1) * 1 ≤ (m + 1) * d := Nat.mul_le_mul_left _ hd0
  omega
end
