/-! PUTTING PIECES TOGETHER: what a run over all masks finds -/
section
/-- a divisor of r that is, modulo p, the product of the pieces of b -/
def fits (p : Nat) (h : Nat → PF) (n : Nat) (r : PP) (b : Nat → Bool) (g : PF) : Prop := prim g.1 ∧ dv g.1 r ∧ ascU p g (msk h b n)
/-- no mask below M has one -/
def NoFit (p : Nat) (h : Nat → PF) (n : Nat) (r : PP) (R : Nat → Bool) (M : Nat) : Prop := ∀ b : Nat → Bool, (∀ i, i < n → b i = true → R i = true) → 0 < num b n → num b n < M → ¬ ∃ g, fits p h n r b g
theorem prim_pm {x y : PP} (h : prim (pm x y)) : prim x ∧ prim y := by
  refine ⟨fun l hl ha => h l hl (fun k => ?_), fun l hl ha => h l hl (fun k => ?_)⟩
  · have h1 : cg l (pm x y) (pm p0 y) := cg.mul_l _ (fun k => by show l ∣ x k - 0; rw [Int.sub_zero]; exact ha k)
    rw [pm_0l] at h1
    exact h1.alof (fun k => Int.dvd_zero _) k
  · have h1 : cg l (pm x y) (pm x p0) := cg.mul_r _ (fun k => by show l ∣ y k - 0; rw [Int.sub_zero]; exact ha k)
    rw [pmc x p0, pm_0l] at h1
    exact h1.alof (fun k => Int.dvd_zero _) k
theorem dg_lead {x y : PP} {m n e : Nat} (hx : dgI x m) (hy : dgI y n) (he : dgI (pm x y) e) : e = m + n ∧ pm x y e = x m * y n := by
  have h1 := (hx.mul hy).uniq he
  subst h1
  exact ⟨rfl, pm_top _ _ _ _ hx.2 hy.2⟩
/-- what is found is irreducible -/
theorem rec_irr {p n e : Nat} (hp : Pr (p : Int)) {h : Nat → PF} {d : Nat → Nat} (hm : ∀ i, i < n → MI p (d i) (h i)) {r : PP} {R b : Nat → Bool} (hb : ∀ i, i < n → b i = true → R i = true) (h0 : 0 < num b n) (hno : NoFit p h n r R (num b n)) {g : PF} (hg : fits p h n r b g) (hge : dgI g.1 e) (hl : ¬ (p : Int) ∣ g.1 e) : Irr g.1 := by
  obtain ⟨hgp, hgr, hgu⟩ := hg
  have hgm : md p g.1 e := hge.mdp hl
  have hed : e = dsm d b n := hgm.uniq (ascU_md hp hgu (msk_md hp hm))
  have he0 : 0 < e := by
    rcases Nat.eq_zero_or_pos e with z | z
    · exfalso
      have key : ∀ n, (∀ i, i < n → MI p (d i) (h i)) → dsm d b n = 0 → ∀ i, i < n → ¬ b i = true := by
        intro n
        induction n with
        | zero => intro _ _ i hi; omega
        | succ n ih =>
          intro hm h1 i hi w
          rw [dsm] at h1
          by_cases q : i = n
          · subst q
            rw [if_pos w] at h1
            have := (hm i (by omega)).1.2.2.1
            omega
          · exact ih (fun j hj => hm j (by omega)) (by omega) i (by omega) w
      have h2 := key n hm (by omega)
      have h3 := num_le (b := b) (b' := fun _ => false) n (fun i hi w => absurd w (h2 i hi))
      have h4 : ∀ n, num (fun _ => false) n = 0 := by
        intro n
        induction n with
        | zero => rfl
        | succ n ih => rw [num, ih]; rfl
      rw [h4] at h3
      omega
    · exact z
  refine ⟨⟨e, he0, hge⟩, hgp, fun x y hx hy hxy => ?_⟩
  apply Classical.byContradiction
  intro hcon
  have hcx : ¬ dl x 1 := fun w => hcon (Or.inl w)
  have hcy : ¬ dl y 1 := fun w => hcon (Or.inr w)
  have hx0 : x ≠ p0 := fun z => hcx (by rw [z]; exact fun _ _ => rfl)
  have hy0 : y ≠ p0 := fun z => hcy (by rw [z]; exact fun _ _ => rfl)
  obtain ⟨dx, hdx⟩ := hx.dg hx0
  obtain ⟨dy, hdy⟩ := hy.dg hy0
  have hdx0 : 0 < dx := by
    rcases Nat.eq_zero_or_pos dx with z | z
    · subst z; exact absurd hdx.2 hcx
    · exact z
  have hdy0 : 0 < dy := by
    rcases Nat.eq_zero_or_pos dy with z | z
    · subst z; exact absurd hdy.2 hcy
    · exact z
  have hge' := hge
  rw [← hxy] at hge' hgp hl
  obtain ⟨e1, e2⟩ := dg_lead hdx hdy hge'
  rw [e2] at hl
  have mx : md p x dx := hdx.mdp (fun w => hl (Int.dvd_mul_of_dvd_left w))
  obtain ⟨v, hv, hz⟩ := hgu
  obtain ⟨X, hX⟩ : ∃ X : PF, X.1 = x := ⟨⟨x, hx⟩, rfl⟩
  obtain ⟨Y, hY⟩ : ∃ Y : PF, Y.1 = y := ⟨⟨y, hy⟩, rfl⟩
  obtain ⟨b1, hb1, hu1⟩ := msk_fac hp n X Y v hm hv (by
    have e3 : (letI := pfR; X * Y) = g := Subtype.ext (by
      show pm X.1 Y.1 = g.1
      rw [hX, hY]; exact hxy)
    rw [e3]; exact hz)
  rw [← hX] at mx
  have hd1 : dx = dsm d b1 n := mx.uniq (ascU_md hp hu1 (msk_md hp hm))
  have hlt : num b1 n < num b n := by
    apply num_st n hb1
    apply Classical.byContradiction
    intro w
    have : dsm d b1 n = dsm d b n := dsm_congr n (fun i hi => by
      cases e4 : b1 i
      · cases e5 : b i
        · rfl
        · exact absurd ⟨i, hi, e5, by rw [e4]; decide⟩ w
      · rw [hb1 i hi e4])
    omega
  have hpos : 0 < num b1 n := by
    rcases Nat.eq_zero_or_pos (num b1 n) with z | z
    · have := dsm_0 (d := d) n (num_0 n z)
      omega
    · exact z
  refine hno b1 (fun i hi w => hb i hi (hb1 i hi w)) hpos hlt ⟨X, by rw [hX]; exact (prim_pm hgp).1, ?_, hu1⟩
  rw [hX]
  have : dv x g.1 := ⟨y, hy, hxy⟩
  exact this.trans hgr
/-- what is left -/
theorem rec_rest {p n : Nat} (hp : Pr (p : Int)) {h : Nat → PF} {d : Nat → Nat} (hm : ∀ i, i < n → MI p (d i) (h i)) {r g q : PF} {R b : Nat → Bool} (hb : ∀ i, i < n → b i = true → R i = true) (hr : ascU p r (msk h R n)) (hg : ascU p g (msk h b n)) (e : (letI := pfR; g * q) = r) : ascU p q (msk h (fun i => R i && !b i) n) := by
  have hpr := zc_prm hp
  have hi := hpr.1
  obtain ⟨w, hw, hz⟩ := hr
  obtain ⟨v, hv, hz2⟩ := hg
  obtain ⟨v', hv', hz3⟩ := zc_k hp hv
  rw [msk_mul n hb, ← e] at hz
  have hnz : ¬ Zc p (msk h b n) := (msk_md hp hm).nal
  have h1 : Zc p (letI := pfR; msk h b n * (kP v * q - kP w * msk h (fun i => R i && !b i) n)) := by
    refine hi.of (hi.sub hz (hi.2.2 _ q hz2)) ?_
    letI := pfR
    grind
  have h2 := (hpr.2.1 _ _ h1).resolve_left hnz
  refine ⟨v' * w, fun z => by rcases hp.2 _ _ z with z | z; exact hv' z; exact hw z, ?_⟩
  rw [← kP_mul]
  refine hi.of (hi.sub (hi.2.2 _ (kP v') h2) (hi.2.2 _ q hz3)) ?_
  letI := pfR
  grind
theorem NoFit.rest {p n M : Nat} {h : Nat → PF} {r q : PP} {R b : Nat → Bool} (hno : NoFit p h n r R M) (hq : dv q r) (hbn : num b n = M) (h0 : 0 < M) : NoFit p h n q (fun i => R i && !b i) (M + 1) := fun b' hb' h1 h2 ⟨g, h3, h4, h5⟩ => by
  have hsub : ∀ i, i < n → b' i = true → R i = true ∧ ¬ b i = true := fun i hi w => by
    have : (R i && !b i) = true := hb' i hi w
    cases e1 : R i <;> cases e2 : b i <;> rw [e1, e2] at this <;> simp at this ⊢
  by_cases e : num b' n = M
  · have heq := num_inj n (e.trans hbn.symm)
    rcases Nat.eq_zero_or_pos n with z | z
    · subst z
      have : num b' 0 = 0 := rfl
      omega
    · -- some bit is in both
      have : ∃ i, i < n ∧ b' i = true := Classical.byContradiction fun w => by
        have h6 := num_le (b := b') (b' := fun _ => false) n (fun i hi w2 => absurd ⟨i, hi, w2⟩ w)
        have h7 : ∀ n, num (fun _ => false) n = 0 := by
          intro n
          induction n with
          | zero => rfl
          | succ n ih => rw [num, ih]; rfl
        rw [h7] at h6
        omega
      obtain ⟨i, hi, hbi⟩ := this
      exact (hsub i hi hbi).2 (by rw [← heq i hi]; exact hbi)
  · exact hno b' (fun i hi w => (hsub i hi w).1) h1 (by omega) ⟨g, h3, h4.trans hq, h5⟩
theorem NoFit.step {p n M : Nat} {h : Nat → PF} {r : PP} {R b : Nat → Bool} (hno : NoFit p h n r R M) (hbn : num b n = M) (hf : (∀ i, i < n → b i = true → R i = true) → ¬ ∃ g, fits p h n r b g) : NoFit p h n r R (M + 1) := fun b' hb' h1 h2 ⟨g, h3⟩ => by
  by_cases e : num b' n = M
  · have heq := num_inj n (e.trans hbn.symm)
    refine hf (fun i hi w => hb' i hi (by rw [heq i hi]; exact w)) ⟨g, h3.1, h3.2.1, ?_⟩
    rw [← msk_congr n heq]; exact h3.2.2
  · exact hno b' hb' h1 (by omega) ⟨g, h3⟩
/-- at the end nothing is left -/
theorem rec_end {p n e : Nat} (hp : Pr (p : Int)) {h : Nat → PF} {d : Nat → Nat} (hm : ∀ i, i < n → MI p (d i) (h i)) {r : PF} {R : Nat → Bool} (hno : NoFit p h n r.1 R (2 ^ n)) (hrp : prim r.1) (hr : ascU p r (msk h R n)) (hre : dgI r.1 e) (hl : ¬ (p : Int) ∣ r.1 e) : e = 0 := by
  have hed : e = dsm d R n := (hre.mdp hl).uniq (ascU_md hp hr (msk_md hp hm))
  rcases Nat.eq_zero_or_pos (num R n) with z | z
  · rw [hed]; exact dsm_0 n (num_0 n z)
  · exact absurd ⟨r, hrp, dv.refl _, hr⟩ (hno R (fun _ _ w => w) z (num_lt R n))
/-- the lift of the candidate -/
theorem rec_lift {p n er eg : Nat} (hp : Pr (p : Int)) (hp2 : 33554467 ≤ p) {h : Nat → PF} {d : Nat → Nat} (hm : ∀ i, i < n → MI p (d i) (h i)) {a r X : PP} {g : PF} {b : Nat → Bool} (ha : sm7 a) (ha0 : a ≠ p0) (hra : dv r a) (hre : dgI r er) (hge : dgI g.1 eg) (hg : fits p h n r b g) (hl : ¬ (p : Int) ∣ g.1 eg) (hX : cg p X (pc (r er) (msk h b n).1)) : ∃ c : Int, r er = c * g.1 eg ∧ ∀ k, (p : Int) ∣ X k - c * g.1 k ∧ -(p : Int) < 2 * (c * g.1 k) ∧ 2 * (c * g.1 k) < p := by
  obtain ⟨hgp, ⟨q, hq, eq⟩, v, hv, hz⟩ := hg
  obtain ⟨w, hw, ew⟩ := hra
  have hrpf : Pf r := hre.pf
  have hq0 : q ≠ p0 := fun z => hre.ne (by rw [← eq, z, pmc, pm_0l])
  obtain ⟨dq, hdq⟩ := hq.dg hq0
  have hre' := hre
  rw [← eq] at hre'
  obtain ⟨e1, e2⟩ := dg_lead hge hdq hre'
  rw [eq] at e2
  -- leads are small
  have hrb : -300 ≤ r er ∧ r er ≤ 300 := by
    have hw0 : w ≠ p0 := fun z => ha0 (by rw [← ew, z, pmc, pm_0l])
    obtain ⟨dw, hdw⟩ := hw.dg hw0
    obtain ⟨da, hda⟩ : ∃ da, dgI a da := (Pf.dg ⟨7, ha.1⟩ ha0)
    have hda' := hda
    rw [← ew] at hda'
    obtain ⟨e3, e4⟩ := dg_lead hre hdw hda'
    rw [ew] at e4
    have hb := ha.2 da
    rw [e4] at hb
    have hwn := hdw.1
    have hle : (r er).natAbs ≤ (r er * w dw).natAbs := by
      rw [Int.natAbs_mul]
      exact Nat.le_mul_of_pos_right _ (by omega)
    omega
  have hgb : ∀ k, -33350 ≤ g.1 k ∧ g.1 k ≤ 33350 := by
    have : pm g.1 (pm q w) = a := by rw [← pma, eq, ew]
    exact (div_le g.2 (hq.mul hw) ha ha0 this).2
  have hqn : (q dq).natAbs ≤ 300 := by
    have hgn := hge.1
    have hle : (q dq).natAbs ≤ (g.1 eg * q dq).natAbs := by
      rw [Int.natAbs_mul]
      exact Nat.le_mul_of_pos_left _ (by omega)
    rw [← e2] at hle
    omega
  refine ⟨q dq, by rw [e2, Int.mul_comm], fun k => ?_⟩
  have hbd : (q dq * g.1 k).natAbs ≤ 300 * 33350 := by
    rw [Int.natAbs_mul]
    exact Nat.mul_le_mul hqn (by have := hgb k; omega)
  refine ⟨?_, by omega, by omega⟩
  -- g is g's lead times the product
  obtain ⟨i1, i2⟩ := msk_dl n hm (b := b)
  have hed : eg = dsm d b n := (hge.mdp hl).uniq (ascU_md hp ⟨v, hv, hz⟩ (msk_md hp hm))
  have hzk : ∀ j, (p : Int) ∣ g.1 j - v * (msk h b n).1 j := fun j => by
    have h1 : (p : Int) ∣ g.1 j + -1 * pm (pk0 v) (msk h b n).1 j := hz j
    rw [pm_c0] at h1
    rwa [show g.1 j + -1 * (v * (msk h b n).1 j) = g.1 j - v * (msk h b n).1 j by omega] at h1
  have hv' : (p : Int) ∣ g.1 eg - v := by
    have := hzk eg
    rw [hed, i2, Int.mul_one, ← hed] at this
    exact this
  have h1 := hX k
  have h2 := hzk k
  have h3 : (p : Int) ∣ (g.1 eg * q dq) * (msk h b n).1 k - q dq * g.1 k := by
    have h4 := Int.dvd_mul_of_dvd_right (b := q dq * (msk h b n).1 k) hv'
    have h5 := Int.dvd_mul_of_dvd_right (b := q dq) h2
    have := Int.dvd_sub h4 h5
    have e5 : q dq * (msk h b n).1 k * (g.1 eg - v) - q dq * (g.1 k - v * (msk h b n).1 k) = (g.1 eg * q dq) * (msk h b n).1 k - q dq * g.1 k := by grind
    rw [e5] at this
    exact this
  have h6 : (p : Int) ∣ X k - r er * (msk h b n).1 k := h1
  rw [e2] at h6
  have := Int.dvd_add h6 h3
  rwa [show ∀ x y z : Int, x - y + (y - z) = x - z from fun x y z => by omega] at this
/-- a candidate that divides fits -/
theorem rec_true {p n er : Nat} (hp : Pr (p : Int)) {h : Nat → PF} {d : Nat → Nat} (hm : ∀ i, i < n → MI p (d i) (h i)) {r C : PP} {s : PF} {k : Int} {b : Nat → Bool} (hl : ¬ (p : Int) ∣ r er) (hC : cg p C (pc (r er) (msk h b n).1)) (e : C = pc k s.1) (hs : prim s.1) (hd : dv s.1 r) : fits p h n r b s := by
  have hpr := zc_prm hp
  have hi := hpr.1
  have hk : ¬ (p : Int) ∣ k := fun w => by
    have h1 : al p C := fun j => by rw [e]; exact Int.dvd_mul_of_dvd_left w
    have h2 : al p (pc (r er) (msk h b n).1) := hC.symm.alof h1
    have h3 : Zc p (letI := pfR; kP (r er) * msk h b n) := fun j => by
      show (p : Int) ∣ pm (pk0 (r er)) (msk h b n).1 j
      rw [pm_c0]; exact h2 j
    rcases hpr.2.1 _ _ h3 with z | z
    · exact kP_nz hl z
    · exact (msk_md hp hm).nal z
  obtain ⟨k', hk', hz⟩ := zc_k hp hk
  refine ⟨hs, hd, k' * r er, fun z => by rcases hp.2 _ _ z with z | z; exact hk' z; exact hl z, ?_⟩
  have h1 : Zc p (letI := pfR; kP k * s - kP (r er) * msk h b n) := fun j => by
    show (p : Int) ∣ pm (pk0 k) s.1 j + -1 * pm (pk0 (r er)) (msk h b n).1 j
    have := hC j
    rw [e] at this
    rw [pm_c0, pm_c0]
    have h2 : (p : Int) ∣ k * s.1 j - r er * (msk h b n).1 j := this
    rwa [show k * s.1 j - r er * (msk h b n).1 j = k * s.1 j + -1 * (r er * (msk h b n).1 j) by omega] at h2
  rw [← kP_mul]
  refine hi.of (hi.sub (hi.2.2 _ (kP k') h1) (hi.2.2 _ s hz)) ?_
  letI := pfR
  grind
end
