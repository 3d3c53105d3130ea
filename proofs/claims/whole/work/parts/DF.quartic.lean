/-! IRREDUCIBLE QUARTICS and the resolvent -/
section
/-- no irreducible polynomial of degree 4 divides, up to a number, a product of lower ones -/
theorem irr4 {f X Y : PF} {c : Int} (hf : Irr f.1) (h4 : dgI f.1 4) (hX : dl X.1 4) (hY : dl Y.1 4) (hX0 : X.1 ≠ p0) (hY0 : Y.1 ≠ p0) (e : (letI := pfR; kP c * f) = (letI := pfR; X * Y)) : False := by
  have h1 : dv f.1 (pm X.1 Y.1) := ⟨pk0 c, Pf.k c, by
    have := congrArg Subtype.val e
    have h2 : pm (pk0 c) f.1 = pm X.1 Y.1 := this
    rw [pmc]; exact h2⟩
  rcases irr_dv hf X.2 Y.2 h1 with w | w
  · obtain ⟨d, hd⟩ := X.2.dg hX0
    have := w.le h4 hd
    have := hd.lt hX
    omega
  · obtain ⟨d, hd⟩ := Y.2.dg hY0
    have := w.le h4 hd
    have := hd.lt hY
    omega
/-- quadratic polynomials -/
def q2P (a b c : Int) : PF := letI := pfR; (kP a * xP + kP b) * xP + kP c
theorem q2P_v (a b c : Int) : (q2P a b c).1 0 = c ∧ (q2P a b c).1 1 = b ∧ (q2P a b c).1 2 = a ∧ dl (q2P a b c).1 3 := by
  have h : ∀ k, (q2P a b c).1 k = pm (pa (pm (pk0 a) (px (pk0 1))) (pk0 b)) (px (pk0 1)) k + pk0 c k := fun k => rfl
  have h2 : ∀ f : PP, pm f (px (pk0 1)) = px f := fun f => by rw [pmc, pm_xl]
  have h3 : ∀ k, (q2P a b c).1 k = px (pa (px (pk0 a)) (pk0 b)) k + pk0 c k := fun k => by rw [h, h2, h2]
  refine ⟨?_, ?_, ?_, fun k hk => ?_⟩
  · rw [h3]; show (0 : Int) + c = c; omega
  · rw [h3]; show (0 : Int) + b + 0 = b; omega
  · rw [h3]; show a + 0 + 0 = a; omega
  · obtain ⟨j, rfl⟩ : ∃ j, k = j + 3 := ⟨k - 3, by omega⟩
    rw [h3]; rfl
theorem q2P_ne {a b c : Int} (h : a ≠ 0 ∨ b ≠ 0 ∨ c ≠ 0) : (q2P a b c).1 ≠ p0 := fun e => by
  have h1 := q2P_v a b c
  rw [e] at h1
  have z : ∀ k, p0 k = 0 := fun _ => rfl
  rw [z, z, z] at h1
  omega
theorem q2P_dl (a b c : Int) : dl (q2P a b c).1 4 := dl_mono (q2P_v a b c).2.2.2 (by omega)
/-- f of degree 4, in its coefficients -/
theorem f4_eq {f : PF} (h : dl f.1 5) : f = (letI := pfR; (((kP (f.1 4) * xP + kP (f.1 3)) * xP + kP (f.1 2)) * xP + kP (f.1 1)) * xP + kP (f.1 0)) := by
  have e := ev_xP h
  have e2 : evG pfR 5 (fun k => kP (f.1 k)) xP = (letI := pfR; kP (f.1 0) + xP * (kP (f.1 1) + xP * (kP (f.1 2) + xP * (kP (f.1 3) + xP * (kP (f.1 4) + xP * 0))))) := rfl
  rw [e2] at e
  rw [← e]
  letI := pfR
  have e3 : ∀ k, f.1 k = f.1 k := fun _ => rfl
  conv => rhs; rw [e]
  grind
/-- the resolvent -/
def rsv (a b c d e y : Int) : Int := ((y + -c) * y + (b * d - 4 * a * e)) * y + ((4 * a * c - b * b) * e - a * d * d)
def rsA (a b c r : Int) : Int := b * b - 4 * a * (c - r)
def rsC (a e r : Int) : Int := r * r - 4 * a * e
def rsP (a b d r : Int) : Int := b * r - 2 * a * d
theorem rsv_id (a b c d e r : Int) : rsP a b d r * rsP a b d r - rsA a b c r * rsC a e r = -4 * a * rsv a b c d e r := by
  unfold rsP rsA rsC rsv
  grind
/-- Ferrari, with the square made whole -/
theorem ferrari {f : PF} (h5 : dl f.1 5) {r : Int} : (letI := pfR; kP (4 * f.1 4) * f) = (letI := pfR; q2P (2 * f.1 4) (f.1 3) r * q2P (2 * f.1 4) (f.1 3) r - q2P (rsA (f.1 4) (f.1 3) (f.1 2) r) (2 * rsP (f.1 4) (f.1 3) (f.1 1) r) (rsC (f.1 4) (f.1 0) r)) := by
  have e := f4_eq h5
  generalize f.1 4 = a at *
  generalize f.1 3 = b at *
  generalize f.1 2 = c at *
  generalize f.1 1 = d at *
  generalize f.1 0 = g at *
  rw [e]
  unfold q2P rsA rsP rsC
  simp only [← kP_mul, ← kP_sub]
  have k2 : kP 2 = (letI := pfR; (2 : PF)) := rfl
  have k4 : kP 4 = (letI := pfR; (4 : PF)) := rfl
  rw [k2, k4]
  letI := pfR
  grind
end
