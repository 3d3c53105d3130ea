/-! FACTORING: recombine -/
section
variable {K : Cx} {I : TI} {L : TL} {A : TA}
def one1 : Nat → Nat := fun _ => 1
theorem pm_swap4 (a b c d : PP) : pm (pm a b) (pm c d) = pm (pm a c) (pm b d) := by
  rw [pma, ← pma b c d, pmc b c, pma c b d, ← pma]
theorem pw_1 (f : PP) : pw f 1 = f := pm_1r f
theorem prd1_dg {q : Nat → PP} : ∀ c, (∀ i, i < c → ∃ d, 0 < d ∧ dgI (q i) d) → ∃ D, c ≤ D ∧ dgI (prd q one1 c) D
  | 0, _ => ⟨0, Nat.le_refl _, dgI_1⟩
  | c + 1, h => by
    obtain ⟨D, h1, h2⟩ := prd1_dg c (fun i hi => h i (by omega))
    obtain ⟨d, h3, h4⟩ := h c (by omega)
    refine ⟨D + d, by omega, ?_⟩
    rw [prd]
    show dgI (pm (prd q one1 c) (pw (q c) 1)) (D + d)
    rw [pw_1]
    exact h2.mul h4
theorem prd1_dv {q : Nat → PP} : ∀ c, (∀ i, i < c → Pf (q i)) → ∀ i, i < c → dv (q i) (prd q one1 c)
  | 0, _, i, hi => absurd hi (Nat.not_lt_zero _)
  | c + 1, h, i, hi => by
    rw [prd]
    show dv (q i) (pm (prd q one1 c) (pw (q c) 1))
    rw [pw_1]
    by_cases w : i = c
    · subst w
      have : Pf (prd q one1 i) := by
        have : ∀ c, (∀ i, i < c → Pf (q i)) → Pf (prd q one1 c) := by
          intro c
          induction c with
          | zero => intro _; exact Pf.k 1
          | succ c ih => intro h; exact (ih (fun i hi => h i (by omega))).mul (pw_pf (h c (by omega)) _)
        exact this i (fun k hk => h k (by omega))
      exact ⟨_, this, by rw [pmc]⟩
    · obtain ⟨t, ht, et⟩ := prd1_dv c (fun k hk => h k (by omega)) i (by omega)
      exact ⟨pm t (q c), ht.mul (h c (by omega)), by rw [← pma, et]⟩
def RU1 (U : Nat) : Nat → Bool := fun i => !U.testBit i
theorem ru_or (U M : Nat) : RU1 (U ||| M) = fun i => RU1 U i && !M.testBit i := funext fun i => by
  unfold RU1
  rw [Nat.testBit_or]
  cases U.testBit i <;> cases M.testBit i <;> rfl
theorem and_0 {M U cn : Nat} (hM : M < 2 ^ cn) : M &&& U = 0 ↔ ∀ i, i < cn → M.testBit i = true → RU1 U i = true := by
  constructor
  · intro h i _ hb
    have := congrArg (fun z => Nat.testBit z i) h
    simp only [Nat.testBit_and, Nat.zero_testBit] at this
    unfold RU1
    rw [hb] at this
    cases e : U.testBit i
    · rfl
    · rw [e] at this; cases this
  · intro h
    apply Nat.eq_of_testBit_eq
    intro i
    rw [Nat.testBit_and, Nat.zero_testBit]
    rcases Nat.lt_or_ge i cn with w | w
    · cases e : M.testBit i
      · rfl
      · have := h i w e
        unfold RU1 at this
        cases e2 : U.testBit i
        · rfl
        · rw [e2] at this; cases this
    · have : M.testBit i = false := Nat.testBit_lt_two_pow (Nat.lt_of_lt_of_le hM (Nat.pow_le_pow_right (by decide) w))
      rw [this]; rfl
theorem num_M {M cn : Nat} (hM : M < 2 ^ cn) : num (fun i => M.testBit i) cn = M := by rw [num_bits, Nat.mod_eq_of_lt hM]
theorem prim_1c {r : PP} (h : prim r) (h0 : dgI r 0) (hp : 0 < r 0) : r = pk0 1 := by
  have e := dgI0 h0
  have h1 := gd_prim h h0.2 h0.ne
  rw [e] at h1
  have h2 : gd (pk0 (r 0)) 1 = (r 0).natAbs := by
    simp [gd, pk0]
  have h3 : gd (pk0 (r 0)) (0 + 1) = 1 := h1
  rw [show (0 + 1 : Nat) = 1 from rfl, h2] at h3
  rw [e, show r 0 = 1 by omega]
/-- the state of recombine -/
def RcS (f p : Nat) (h : Nat → PF) (e : Nat → Nat) (cn : Nat) (r0 : PP) (I : TI) (L : TL) (A : TA) (M U c : Nat) (q : Nat → PP) (n : Nat → Nat) (r : PF) (er : Nat) : Prop :=
  RcI f p h e cn I L r.1 er ∧ prim r.1 ∧ 0 < r.1 er ∧ ascU p r (msk h (RU1 U) cn) ∧ NoFit p h cn r.1 (RU1 U) M ∧ FLs (f + 69) I L A c q n ∧ (∀ i, i < c → n i = 0 ∧ Irr (q i) ∧ posL (q i)) ∧ pm (prd q one1 c) r.1 = r0 ∧ ∀ i j, i < c → j < c → i ≠ j → q i ≠ q j
set_option maxHeartbeats 4000000 in
theorem s_recombine {f p cn er0 : Nat} {h : Nat → PF} {e : Nat → Nat} {a : PP} {r0 : PF} {n0 : Nat → Nat} {q0 : Nat → PP} (hf : isX0 K f) (h5 : isX5 K (f + 1)) (hA5 : AX5 A (f + 1)) (ho : isX2 K (f + 69)) (hPA : PermA A (f + 69)) (hP : Pm p) (hp3 : 33554467 ≤ p) (hrc : RcI f p h e cn I L r0.1 er0) (hmi : ∀ j, j < cn → MI p (e j) (h j)) (hse : sgm e cn ≤ 6) (ha : sm7 a) (ha0 : a ≠ p0) (hra : dv r0.1 a) (hrp : prim r0.1) (hr0 : 0 < r0.1 er0) (hasc : ascU p r0 (msk h (fun _ => true) cn)) (hsq : sqf p r0.1) (hfl : FLs (f + 69) I L A 0 q0 n0) : ConV K yX0_recombine wsX0_recombine 5 138 I L A [.ref f] (fun I' L' A' => (∃ c q n, FLs (f + 69) I' L' A c q n ∧ (∀ i, i < c → n i = 0 ∧ Irr (q i) ∧ posL (q i)) ∧ r0.1 = prd q one1 c ∧ ∀ i j, i < c → j < c → i ≠ j → q i ≠ q j) ∧ I' (f + 69) 3 = I (f + 69) 3 ∧ Fr (f + 57) (f + 84) I I' L L' ∧ A' = A) := by
  have hcn6 := hrc.2.1.2.1
  have hre0 : dgI r0.1 er0 := by rw [← hrc.2.2.2]; exact hrc.2.2.1.dg
  have hmd0 : ∀ {x : PP} {d : Nat}, dgI x d → dv x a → ¬ (p : Int) ∣ x d := fun {x d} hx hd w => by
    obtain ⟨da, hda⟩ : ∃ da, dgI a da := (Pf.dg ⟨7, ha.1⟩ ha0)
    have h1 := lead_dvd hd hx hda
    exact not_dvd_small (p := p) hda.1 (by have := ha.2 da; omega) (Int.dvd_trans w h1)
  have her6 : er0 ≤ 6 := by
    obtain ⟨w, hw, ew⟩ := hra
    have := (div_le hre0.pf hw ha ha0 ew).1
    have := hre0.lt this
    omega
  apply w_X0_recombine
  unfold wp_X0_recombine wp_X0_recombine_4
  refine ⟨fun μ I' L' A' x1 x2 => ∃ (M U c : Nat) (q : Nat → PP) (n : Nat → Nat) (r : PF) (er : Nat), M + μ = 2 ^ cn ∧ 1 ≤ M ∧ U < 2 ^ cn ∧ x1 = nI U ∧ x2 = nI M ∧ RcS f p h e cn r0.1 I' L' A M U c q n r er ∧ I' (f + 69) 3 = I (f + 69) 3 ∧ Fr (f + 57) (f + 84) I I' L L' ∧ A' = A, 2 ^ cn - 1, ⟨1, 0, 0, q0, n0, r0, er0, ?_, Nat.le_refl _, Nat.pow_pos (by decide), rfl, rfl, ⟨hrc, hrp, hr0, ?_, fun b _ h1 h2 => by omega, hfl, fun i hi => absurd hi (Nat.not_lt_zero _), pm_1l _, fun i j hi => absurd hi (Nat.not_lt_zero _)⟩, rfl, Fr.refl _ _ _ _, rfl⟩, ?_⟩
  · have : 0 < 2 ^ cn := Nat.pow_pos (by decide)
    omega
  · have : RU1 0 = fun _ => true := funext fun i => by unfold RU1; rw [Nat.zero_testBit]; rfl
    rw [this]; exact hasc
  rintro μ C hC I1 L1 A1 _ _ ⟨M, U, c, q, n, r, er, hMμ, hM1, hU, rfl, rfl, hS, h31, fr1, rfl⟩
  have hS' := hS
  obtain ⟨s1, s2, s3, s4, s5, s6, s7, s8, s9⟩ := hS
  have h2c : 2 ^ cn ≤ 64 := by
    have := Nat.pow_le_pow_right (show 0 < 2 by decide) hcn6
    exact this
  have hre : dgI r.1 er := by rw [← s1.2.2.2]; exact s1.2.2.1.dg
  have hqpf : ∀ i, i < c → Pf (q i) := fun i hi => (s7 i hi).2.1.pf
  obtain ⟨D, hcD, hDd⟩ := prd1_dg c (fun i hi => (s7 i hi).2.1.1)
  have hrr0 : dv r.1 r0.1 := ⟨prd q one1 c, hDd.pf, by rw [pmc]; exact s8⟩
  have hra' : dv r.1 a := hrr0.trans hra
  have hdeg : D + er = er0 := (hDd.mul hre).uniq (by rw [s8]; exact hre0)
  have hlr : ¬ (p : Int) ∣ r.1 er := hmd0 hre hra'
  have h9 : I1 (f + 1) 9 = nI cn := s1.2.1.1
  refine ⟨hf.1, h5.1, ?_⟩
  rw [h9, ishl cn hcn6]
  refine ⟨fun z => ?_, fun z => ?_⟩
  · rw [ile, tI (by omega), tI (by omega)] at z
    have hMe : M = 2 ^ cn := by omega
    subst hMe
    have her0 := rec_end hP.1 hmi s5 s2 s4 hre hlr
    subst her0
    have e1 := prim_1c s2 hre s3
    rw [e1, pm_1r] at s8
    exact ⟨⟨c, q, n, s6, s7, s8.symm, s9⟩, h31, fr1, rfl⟩
  rw [ile, tI (by omega), tI (by omega)] at z
  have hMlt : M < 2 ^ cn := by omega
  have hnum := num_M hMlt
  have hiff := and_0 (U := U) hMlt
  refine ⟨fun w => ?_, fun w v hv => ?_⟩
  rotate_left
  · have hne : ¬ M &&& U = 0 := fun q => w ((iand0 M (by omega) U (by omega)).mpr q)
    exact hC (μ - 1) _ _ _ _ _ (by omega) ⟨M + 1, U, c, q, n, r, er, by omega, by omega, hU, rfl, by rw [hv, sI], ⟨s1, s2, s3, s4, s5.step hnum (fun hsub => absurd (hiff.mpr hsub) hne), s6, s7, s8, s9⟩, h31, fr1, rfl⟩
  have hsub := hiff.mp ((iand0 M (by omega) U (by omega)).mp w)
  -- something is left
  have her : 0 < er := by
    have hed : er = dsm e (RU1 U) cn := (hre.mdp hlr).uniq (ascU_md hP.1 s4 (msk_md hP.1 hmi))
    rcases Nat.eq_zero_or_pos er with t | t
    · exfalso
      have key : ∀ n, n ≤ cn → dsm e (RU1 U) n = 0 → ∀ i, i < n → ¬ RU1 U i = true := by
        intro n
        induction n with
        | zero => intro _ _ i hi; omega
        | succ n ih =>
          intro hn h1 i hi w
          rw [dsm] at h1
          by_cases q : i = n
          · subst q
            rw [if_pos w] at h1
            have := (hmi i (by omega)).1.2.2.1
            omega
          · exact ih (by omega) (by omega) i (by omega) w
      have h2 := key cn (Nat.le_refl _) (by omega)
      have h3 := num_le (b := fun i => M.testBit i) (b' := fun _ => false) cn (fun i hi w => absurd (hsub i hi w) (h2 i hi))
      have h4 : ∀ n, num (fun _ => false) n = 0 := by
        intro n
        induction n with
        | zero => rfl
        | succ n ih => rw [num, ih]; rfl
      rw [h4, hnum] at h3
      omega
    · exact t
  refine ⟨_, s_takeOut (M := M) (c := c) (a := a) hf h5 hA5 ho hPA hP hp3 s1 hmi hse (by omega) ha ha0 hra' s2 s3 s6 (by omega), ?_⟩
  rintro v I2 L2 A2 ⟨hcase, h32, f2, rfl⟩
  have fr2 := fr1.trans f2
  have h32' : I2 (f + 69) 3 = I (f + 69) 3 := h32.trans h31
  refine ⟨fun z2 v10 e10 => ?_, fun z2 v11 e11 v12 e12 => ?_⟩
  · obtain ⟨-, hno, hrc2, hfl2⟩ := hcase.resolve_left (fun t => by rw [t.1] at z2; exact absurd z2 (by decide))
    exact hC (μ - 1) _ _ _ _ _ (by omega) ⟨M + 1, U, c, q, n, r, er, by omega, by omega, hU, rfl, by rw [e10, sI], ⟨hrc2, s2, s3, s4, s5.step hnum (fun _ => hno), hfl2, s7, s8, s9⟩, h32', fr2, rfl⟩
  · obtain ⟨-, g, qq, er', hfit, hpos, hqq, hgq, hrc2, hfl2⟩ := hcase.resolve_right (fun t => z2 t.1)
    obtain ⟨eg, hge, hgp⟩ := hpos
    have hgr : dv g.1 r.1 := hfit.2.1
    have hgl : ¬ (p : Int) ∣ g.1 eg := hmd0 hge (hgr.trans hra')
    have hirr := rec_irr (b := fun i => M.testBit i) hP.1 hmi hsub (by rw [hnum]; exact hM1) (by rw [hnum]; exact s5) hfit hge hgl
    obtain ⟨Qf, hQf⟩ : ∃ Qf : PF, Qf.1 = qq := ⟨⟨qq, hqq⟩, rfl⟩
    have hprq := prim_pm (x := g.1) (y := qq) (by rw [hgq]; exact s2)
    have hqd : dgI qq er' := by rw [← hrc2.2.2.2]; exact hrc2.2.2.1.dg
    have hql : 0 < qq er' := by
      have hre' := hre
      rw [← hgq] at hre'
      obtain ⟨-, e4⟩ := dg_lead hge hqd hre'
      rw [hgq] at e4
      rw [e4] at s3
      rcases Int.lt_or_le 0 (qq er') with t | t
      · exact t
      · have := Int.mul_nonpos_of_nonneg_of_nonpos (show 0 ≤ g.1 eg by omega) t
        omega
    have hrest := rec_rest hP.1 hmi hsub s4 hfit.2.2 (q := Qf) (Subtype.ext (by show pm g.1 Qf.1 = r.1; rw [hQf]; exact hgq))
    have hno2 := s5.rest (b := fun i => M.testBit i) (q := qq) ⟨g.1, g.2, by rw [pmc]; exact hgq⟩ hnum hM1
    rw [← ru_or] at hrest hno2
    have u1 : ∀ i, i ≠ c → upN q c g.1 i = q i := fun i hi => if_neg hi
    have u2' : upN q c g.1 c = g.1 := if_pos rfl
    have w1 : ∀ i, i ≠ c → upN n c 0 i = n i := fun i hi => if_neg hi
    have w2 : upN n c 0 c = 0 := if_pos rfl
    have hnew : ∀ i, i < c → q i ≠ g.1 := fun i hi e => by
      have hd1 := prd1_dv c hqpf i hi
      obtain ⟨t, ht, et⟩ := hd1
      have hsqd : dmP p (pm g.1 g.1) r0.1 := by
        refine ⟨pm t qq, ht.mul hqq, ?_⟩
        have e5 : r0.1 = pm (pm t qq) (pm g.1 g.1) := by
          rw [← s8, ← et, ← hgq, e, pm_swap4, pmc]
        rw [e5]; exact cg.refl _ _
      have hgm : md p g.1 eg := hge.mdp hgl
      obtain ⟨d0, hd0, hdd⟩ := hirr.1
      have hed : eg = d0 := hge.uniq hdd
      obtain ⟨hh, DD, hhi, hhd⟩ := irm_ex hP.1 g.2 hgm (by omega)
      refine hsq hh DD hhi (dmP.trans ?_ hsqd)
      obtain ⟨y, hy, ey⟩ := hhd
      refine ⟨pm y y, hy.mul hy, (cg.mul_l _ ey).trans ((cg.mul_r _ ey).trans ?_)⟩
      rw [pm_swap4]; exact cg.refl _ _
    refine hC (μ - 1) _ _ _ _ _ (by omega) ⟨M + 1, U ||| M, c + 1, upN q c g.1, upN n c 0, Qf, er', by omega, by omega, Nat.or_lt_two_pow hU hMlt, by rw [e11, ior], by rw [e12, sI], ⟨by rw [hQf]; exact hrc2, by rw [hQf]; exact hprq.2, by rw [hQf]; exact hql, hrest, by rw [hQf]; exact hno2, hfl2, fun i hi => ?_, ?_, fun i j hi hj hij => ?_⟩, h32', fr2, rfl⟩
    · by_cases t : i = c
      · rw [t, u2', w2]; exact ⟨rfl, hirr, eg, hge, hgp⟩
      · rw [u1 i t, w1 i t]; exact s7 i (by omega)
    · rw [prd, prd_congr (q' := q) (n' := one1) c (fun i hi => ⟨u1 i (by omega), rfl⟩), u2']
      show pm (pm (prd q one1 c) (pw g.1 1)) Qf.1 = r0.1
      rw [pw_1, pma, hQf, hgq]; exact s8
    · by_cases t : i = c
      · rw [t, u2', u1 j (by omega)]
        exact fun e => hnew j (by omega) e.symm
      · rw [u1 i t]
        by_cases t2 : j = c
        · rw [t2, u2']; exact hnew i (by omega)
        · rw [u1 j t2]; exact s9 i j (by omega) (by omega) hij
end
