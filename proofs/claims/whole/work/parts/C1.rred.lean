/-! THE REFERENCE modulo a prime: reduce -/
section
variable {K : Cx} {I : TI} {L : TL} {A : TA}
theorem isub_n {a b : Nat} (h : b ≤ a) (ha : a < 2147483648) : nI a - nI b = nI (a - b) := eqn (by rw [isub (by rw [tI (by omega), tI (by omega)]; omega) (by rw [tI (by omega), tI (by omega)]; omega), tI (by omega), tI (by omega)]; omega)
theorem iadd_n {a b : Int32} {x y : Nat} (ha : a.toInt = x) (hb : b.toInt = y) (h : x + y < 2147483648) : (a + b).toInt = ((x + y : Nat) : Int) := by
  rw [iadd (by rw [ha, hb]; omega) (by rw [ha, hb]; omega), ha, hb]; omega
theorem sixn {c : Int32} {r k : Nat} (hc : c.toInt = ((16 * r : Nat) : Int)) (hr : r < 10) (hk : k < 16) {x : Int32} (hx : x.toInt = k) : (c + x).toInt = ((16 * r + k : Nat) : Int) := iadd_n hc hx (by omega)
theorem rsd.nat {p : Nat} {f : PP} (h : rsd p f) (k : Nat) : ∃ x : Nat, x < p ∧ f k = x := ⟨(f k).toNat, by have := h k; omega, by have := h k; omega⟩
set_option maxHeartbeats 2000000 in
theorem m_reduce {m r b p d : Nat} {f g : PP} (hm : isX7 K m) (hP : PmR p) (h19 : I m 19 = nI p) (hr : r < 9) (hb : b < 9) (hrb : r ≠ b) (hf : mp I m r = f) (hg' : mp I m b = g) (rf : rsd p f) (rg : rsd p g) (hg : dgI g d) :
    ConV K yX7_reduce wsX7_reduce 1 24 I L A [.ref m, .int (nI r), .int (nI b)] (fun I' L' A' => (∃ Q R, mp I' m r = R ∧ mp I' m 9 = Q ∧ rsd p R ∧ dl R d ∧ rsd p Q ∧ cg p f (pa (pm Q g) R) ∧ (∀ k, lnP f 16 - d ≤ k → Q k = 0)) ∧ MU m (fun s => s = r ∨ s = 9) I I' ∧ L' = L ∧ A' = A) := by
  have hp1 : 1 < p := by have := hP.1.1; omega
  have hp9 := hP.2
  have hd16 : d < 16 := hg.lt (by rw [← hg']; exact mp_dl I m b)
  have hlg : lnP g 16 = d + 1 := lnP_of hg.2 (fun z hz => by rw [show z = d by omega]; exact hg.1) (by omega)
  have hf16 : dl f 16 := by rw [← hf]; exact mp_dl I m r
  have hlf := lnP_le f 16
  have hfl := lnP_dl hf16
  obtain ⟨gd', hgdp, hgd⟩ := rg.nat d
  have hgd0 : 0 < gd' := by have := hg.1; omega
  apply w_X7_reduce
  unfold wp_X7_reduce
  refine ⟨hm.1, _, m_modDegree hm (show b < 10 by omega), ?_⟩
  rintro v I1 L1 A1 ⟨rfl, rfl, rfl, rfl⟩
  rw [hg', hlg, tp_s]
  have hixd := mix (show b < 10 by omega) hd16 (x := nI b) rfl (tI (k := d) (by omega))
  have hval : (I1 (m + 8) (16 * b + d)).toInt = gd' := by rw [← mp_lt hd16, hg', hgd]
  rw [ix_of hixd]
  refine ⟨mok hm (by omega) hd16 hixd, _, m_inverse hm hP h19 hval hgd0 hgdp, ?_⟩
  rintro w I2 L2 A2 ⟨⟨u, rfl, hu, hinv⟩, rfl, rfl, rfl⟩
  unfold wp_X7_reduce_26
  have l144 : (144 : Int32).toInt = ((16 * 9 : Nat) : Int) := by decide
  -- row 9 becomes 0
  refine ⟨fun μ I' L' A' x3 x4 x5 => ∃ i, i + μ = 16 ∧ x3 = nI d ∧ x4 = nI u ∧ x5 = nI i ∧ (∀ k, k < i → mp I' m 9 k = 0) ∧ MU m (· = 9) I2 I' ∧ L' = L2 ∧ A' = A2, 16, ⟨0, rfl, rfl, rfl, rfl, fun k hk => absurd hk (Nat.not_lt_zero _), MU.refl _ _ _, rfl, rfl⟩, ?_⟩
  rintro μ C hC I' L' A' _ _ _ ⟨i, hi, rfl, rfl, rfl, z1, z2, rfl, rfl⟩
  refine ⟨fun w => ⟨hm.1, _, m_modDegree hm (show r < 10 by omega), ?_⟩, fun w => ?_⟩
  rotate_left
  · rw [ile, li16, tI (by omega)] at w
    have hix := sixn l144 (by omega) (show i < 16 by omega) (tI (k := i) (by omega))
    rw [ix_of hix]
    refine ⟨hm.1, mok hm (by omega) (show i < 16 by omega) hix, fun I25 e25 v26 e26 => ?_⟩
    refine hC (μ - 1) _ _ _ _ _ _ (by omega) ⟨i + 1, by omega, rfl, rfl, by rw [e26, sI], fun k hk => ?_, z2.trans (by rw [e25]; exact mu_u2 (by omega)), rfl, rfl⟩
    rw [mp_lt (by omega), e25]
    by_cases y : k = i
    · rw [y, u2_self]; rfl
    · rw [u2_ne _ _ (fun t => y (by omega)), ← mp_lt (by omega)]; exact z1 k (by omega)
  rw [ile, li16, tI (by omega)] at w
  have hi16 : i = 16 := by omega
  subst hi16
  have hq0 : mp I' m 9 = p0 := funext fun k => by
    by_cases y : k < 16
    · exact z1 k y
    · exact mp_dl I' m 9 k (by omega)
  rintro v I3 L3 A3 ⟨rfl, rfl, rfl, rfl⟩ v22 e22
  have hfr : mp I3 m r = f := (z2.same (show ¬ r = 9 by omega)).trans hf
  have hgr : mp I3 m b = g := (z2.same (show ¬ b = 9 by omega)).trans hg'
  rw [hfr] at e22
  have hv22 : v22.toInt = (lnP f 16 : Int) - 1 - d := by rw [e22, isub (by rw [tm1 (by omega), tI (by omega)]; omega) (by rw [tm1 (by omega), tI (by omega)]; omega), tm1 (by omega), tI (by omega)]
  have h193 : I3 m 19 = nI p := by rw [z2.own]; exact h19
  unfold wp_X7_reduce_60
  obtain ⟨N, hN⟩ : ∃ N, N = lnP f 16 - d := ⟨_, rfl⟩
  refine ⟨fun μ I' L' A' x3 x4 x5 => x3 = nI d ∧ x4 = nI u ∧ ((μ = 0 ∧ x5.toInt < 0) ∨ x5.toInt = (μ : Int) - 1) ∧ μ + d ≤ 16 + d ∧ (0 < μ → μ + d ≤ 16) ∧ μ ≤ N ∧ (∃ Q R, mp I' m r = R ∧ mp I' m 9 = Q ∧ rsd p R ∧ dl R (d + μ) ∧ rsd p Q ∧ cg p f (pa (pm Q g) R) ∧ (∀ j, j < μ → Q j = 0) ∧ (∀ k, N ≤ k → Q k = 0)) ∧ MU m (fun s => s = r ∨ s = 9) I2 I' ∧ L' = L3 ∧ A' = A3, N, ⟨rfl, rfl, ?_, by omega, fun _ => by omega, Nat.le_refl _, ⟨p0, f, hfr, hq0, rf, dl_mono hfl (by omega), fun k => ⟨by show (0 : Int) ≤ 0; omega, by show (0 : Int) < p; omega⟩, by rw [pm_0l, pa_comm, pa_0]; exact cg.refl _ f, fun _ _ => rfl, fun _ _ => rfl⟩, z2.mono (fun s h => Or.inr h), rfl, rfl⟩, ?_⟩
  · rw [hv22]
    by_cases y : lnP f 16 ≤ d
    · exact Or.inl ⟨by omega, by omega⟩
    · exact Or.inr (by omega)
  clear hC z1 z2 hq0 e22 hv22 hfr hgr h193
  rintro μ C hC I' L' A' _ _ x5 ⟨rfl, rfl, hx5, hμd, hμ16, hμN, ⟨Q, R, hR, hQ, rR, dR, rQ, hcg, hQ0, hQN⟩, hmu, rfl, rfl⟩
  have h19' : I' m 19 = nI p := by rw [hmu.own]; exact h19
  refine ⟨fun z => ?_, fun z => ?_⟩
  · rw [ilt, li0] at z
    have : μ = 0 := by omega
    subst this
    exact ⟨⟨Q, R, hR, hQ, rR, dR, rQ, hcg, by rw [← hN]; exact hQN⟩, hmu, rfl, rfl⟩
  rw [ilt, li0] at z
  obtain ⟨k, rfl⟩ : ∃ k, μ = k + 1 := ⟨μ - 1, by omega⟩
  have hx5k : x5 = nI k := eqn (by omega)
  subst hx5k
  have hkd : k + 1 + d ≤ 16 := hμ16 (by omega)
  have hgI : mp I' m b = g := (hmu.same (show ¬ (b = r ∨ b = 9) by omega)).trans hg'
  have hix := mix (show r < 10 by omega) (show k < 16 by omega) (x := nI r) rfl (tI (k := k) (by omega))
  have hix2 : (16 * nI r + nI k + nI d).toInt = ((16 * r + (k + d) : Nat) : Int) := by rw [iadd_n hix (tI (k := d) (by omega)) (by omega)]; omega
  obtain ⟨t, htp, ht⟩ := rR.nat (k + d)
  have htv : (I' (m + 8) (16 * r + (k + d))).toInt = t := by rw [← mp_lt (by omega), hR, ht]
  have hmt := mul_lt htp hu hp9
  obtain ⟨hq, hp0'⟩ := irem_n (imul_n htv (tI (k := u) (by omega)) (by omega)) (show (I' m 19).toInt = p by rw [h19']; exact tI (by omega)) (by omega)
  rw [ix_of hix2]
  refine ⟨hm.1, mok hm (by omega) (by omega) hix2, hp0', fun v12 e12 => ?_⟩
  rw [hq] at e12
  obtain ⟨q, hqd⟩ : ∃ q, q = t * u % p := ⟨_, rfl⟩
  have hqp : q < p := by rw [hqd]; exact Nat.mod_lt _ (by omega)
  rw [← hqd] at e12
  subst e12
  have hix9 := sixn l144 (by omega) (show k < 16 by omega) (tI (k := k) (by omega))
  rw [ix_of hix9]
  refine ⟨mok hm (by omega) (show k < 16 by omega) hix9, fun I14 e14 => ?_⟩
  have mu14 : MU m (· = 9) I' I14 := by rw [e14]; exact mu_u2 (by omega)
  have hQ14 : mp I14 m 9 = pa Q (mono k q) := funext fun j => by
    show mp I14 m 9 j = Q j + (if j = k then (q : Int) else 0)
    by_cases y : j < 16
    · rw [mp_lt y, e14]
      by_cases y2 : j = k
      · rw [y2, u2_self, tI (by omega), if_pos rfl, hQ0 k (by omega)]; omega
      · rw [u2_ne _ _ (fun t => y2 (by omega)), ← mp_lt y, hQ, if_neg y2]; omega
    · rw [mp_dl I14 m 9 j (by omega), if_neg (by omega), ← hQ, mp_dl I' m 9 j (by omega)]; rfl
  have hR14 : mp I14 m r = R := (mu14.same (show ¬ r = 9 by omega)).trans hR
  have hg14 : mp I14 m b = g := (mu14.same (show ¬ b = 9 by omega)).trans hgI
  have h1914 : I14 m 19 = nI p := by rw [mu14.own]; exact h19'
  unfold wp_X7_reduce_105
  refine ⟨fun ν I'' L'' A'' x3 x4 x5 x6 x7 => ∃ i, i + ν = d + 1 ∧ x3 = nI d ∧ x4 = nI u ∧ x5 = nI k ∧ x6 = nI q ∧ x7 = nI i ∧ (∀ j, mp I'' m r j = if k ≤ j ∧ j < k + i then (R j + ((p : Int) - q) * g (j - k)) % p else R j) ∧ MU m (· = r) I14 I'' ∧ L'' = L' ∧ A'' = A', d + 1, ⟨0, by omega, rfl, rfl, rfl, rfl, rfl, fun j => by rw [hR14, if_neg (by omega)], MU.refl _ _ _, rfl, rfl⟩, ?_⟩
  rintro ν C' hC' I'' L'' A'' _ _ _ _ _ ⟨i, hi, rfl, rfl, rfl, rfl, rfl, j1, j2, rfl, rfl⟩
  have h19'' : I'' m 19 = nI p := by rw [j2.own]; exact h1914
  refine ⟨fun y v1 e1 => ?_, fun y => ?_⟩
  · rw [ilt, tI (by omega), tI (by omega)] at y
    have hid : i = d + 1 := by omega
    subst hid
    have hp0i : (0 : Int) < p := by omega
    have cgR : cg p R (pa (pm (mono k q) g) (mp I'' m r)) := fun j => by
      show (p : Int) ∣ R j - (pm (mono k q) g j + mp I'' m r j)
      rw [pm_mono, j1 j]
      by_cases y1 : k ≤ j
      · rw [if_pos y1]
        by_cases y2 : j < k + (d + 1)
        · rw [if_pos ⟨y1, y2⟩]
          obtain ⟨c, hc⟩ := mod_dvd (R j + ((p : Int) - q) * g (j - k)) p
          exact ⟨-c - g (j - k), by grind⟩
        · rw [if_neg (fun t => y2 t.2), hg.2 (j - k) (by omega)]
          exact ⟨0, by simp⟩
      · rw [if_neg y1, if_neg (fun t => y1 t.1)]
        exact ⟨0, by simp⟩
    refine hC k _ _ _ _ _ _ (by omega) ⟨rfl, rfl, Or.inr ?_, by omega, fun _ => by omega, by omega, ⟨pa Q (mono k q), mp I'' m r, rfl, (j2.same (show ¬ 9 = r by omega)).trans hQ14, fun j => ?_, fun j hj => ?_, fun j => ?_, ?_, fun j hj => ?_, fun j hj => ?_⟩, (hmu.trans (mu14.mono (fun s h => Or.inr h))).trans (j2.mono (fun s h => Or.inl h)), rfl, rfl⟩
    · rw [e1, ldec (by omega), tm1 (by omega)]
    · rw [j1 j]
      split
      · exact ⟨Int.emod_nonneg _ (by omega), Int.emod_lt_of_pos _ hp0i⟩
      · exact rR j
    · rw [j1 j]
      by_cases y2 : j = k + d
      · subst y2
        rw [if_pos ⟨by omega, by omega⟩, show k + d - k = d by omega, ht, hgd]
        apply Int.emod_eq_zero_of_dvd
        -- t + (p - q) gd = 0
        have h1 : (p : Int) ∣ (t : Int) * u - q := by
          have := Nat.div_add_mod (t * u) p
          exact ⟨((t * u / p : Nat) : Int), by rw [← Int.natCast_mul, ← Int.natCast_mul, hqd]; omega⟩
        obtain ⟨c1, hc1⟩ := h1
        obtain ⟨c2, hc2⟩ := hinv
        exact ⟨gd' + c1 * gd' - t * c2, by grind⟩
      · rw [if_neg (by omega)]; exact dR j (by omega)
    · show 0 ≤ Q j + (if j = k then (q : Int) else 0) ∧ Q j + (if j = k then (q : Int) else 0) < p
      by_cases y2 : j = k
      · rw [if_pos y2, y2, hQ0 k (by omega)]; omega
      · rw [if_neg y2]; have := rQ j; omega
    · have e3 : pa (pm (pa Q (mono k q)) g) (mp I'' m r) = pa (pm Q g) (pa (pm (mono k q) g) (mp I'' m r)) := funext fun j => by
        show pm (pa Q (mono k q)) g j + mp I'' m r j = pm Q g j + (pm (mono k q) g j + mp I'' m r j)
        rw [pm_add_l]; omega
      rw [e3]
      exact hcg.trans ((cg.refl _ _).add cgR)
    · show Q j + (if j = k then (q : Int) else 0) = 0
      rw [if_neg (by omega), hQ0 j (by omega)]; rfl
    · show Q j + (if j = k then (q : Int) else 0) = 0
      rw [if_neg (by omega), hQN j hj]; rfl
  · rw [ilt, tI (by omega), tI (by omega)] at y
    have hixi : (16 * nI r + nI k + nI i).toInt = ((16 * r + (k + i) : Nat) : Int) := by rw [iadd_n hix (tI (k := i) (by omega)) (by omega)]; omega
    have hixb := mix (show b < 10 by omega) (show i < 16 by omega) (x := nI b) rfl (tI (k := i) (by omega))
    rw [ix_of hixi, ix_of hixb]
    obtain ⟨tj, htjp, htj⟩ := rR.nat (k + i)
    obtain ⟨gi, hgip, hgi⟩ := rg.nat i
    have e1 : (I'' (m + 8) (16 * r + (k + i))).toInt = tj := by rw [← mp_lt (by omega), j1, if_neg (by omega), htj]
    have e2 : (I'' (m + 8) (16 * b + i)).toInt = gi := by rw [← mp_lt (by omega), j2.same (show ¬ b = r by omega), hg14, hgi]
    have hle : (p - q) * gi ≤ 997 * 997 := Nat.mul_le_mul (by omega) (by omega)
    have e3 : ((I'' m 19 - nI q) * I'' (m + 8) (16 * b + i)).toInt = (((p - q) * gi : Nat) : Int) := by
      rw [h19'', isub_n (by omega) (by omega)]
      exact imul_n (tI (by omega)) e2 (by omega)
    obtain ⟨hres, hne⟩ := irem_n (iadd_n e1 e3 (by omega)) (show (I'' m 19).toInt = p by rw [h19'']; exact tI (by omega)) (by omega)
    refine ⟨hm.1, mok hm (by omega) (by omega) hixi, mok hm (by omega) (by omega) hixb, hne, mok hm (by omega) (by omega) hixi, fun I7 e7 v8 e8 => ?_⟩
    rw [hres] at e7
    refine hC' (ν - 1) _ _ _ _ _ _ _ _ (by omega) ⟨i + 1, by omega, rfl, rfl, rfl, rfl, by rw [e8, sI], fun j => ?_, j2.trans (by rw [e7]; exact mu_u2 (by omega)), rfl, rfl⟩
    by_cases y2 : j = k + i
    · subst y2
      rw [if_pos ⟨by omega, by omega⟩, mp_lt (by omega), e7, u2_self, tI (by
        have := Nat.mod_lt (tj + (p - q) * gi) (show 0 < p by omega)
        omega), htj, show k + i - k = i by omega, hgi, Int.natCast_emod, Int.natCast_add, Int.natCast_mul, Int.ofNat_sub (by omega)]
    · have e4 : mp I7 m r j = mp I'' m r j := by
        by_cases y3 : j < 16
        · rw [mp_lt y3, mp_lt y3, e7, u2_ne _ _ (fun t => y2 (by omega))]
        · rw [mp_dl I7 m r j (by omega), mp_dl I'' m r j (by omega)]
      rw [e4, j1 j]
      by_cases y3 : k ≤ j ∧ j < k + i
      · rw [if_pos y3, if_pos ⟨y3.1, by omega⟩]
      · rw [if_neg y3, if_neg (fun t => y3 ⟨t.1, by omega⟩)]
end
