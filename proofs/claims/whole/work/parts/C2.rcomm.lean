/-! THE REFERENCE modulo a prime: modCommon, modTimes, raise -/
section
variable {K : Cx} {I : TI} {L : TL} {A : TA}
theorem lnP_res {f : PP} {n : Nat} (h : dl f n) : (lnP f n = 0 ∧ f = p0) ∨ ∃ d, lnP f n = d + 1 ∧ dgI f d ∧ d < n := by
  by_cases q : f = p0
  · refine Or.inl ⟨?_, q⟩
    rcases hl : lnP f n with _ | e
    · rfl
    · exact absurd q (lnP_ne h hl).ne
  · obtain ⟨d, h1, h2, h3⟩ := dg_ex f n h q
    exact Or.inr ⟨d, lnP_of h3 (fun z hz => by rw [show z = d by omega]; exact h2) (by omega), ⟨h2, h3⟩, h1⟩
theorem m_modCommon {m p : Nat} {x y : PP} (hm : isX7 K m) (hP : PmR p) (h19 : I m 19 = nI p) (hx : mp I m 1 = x) (hy : mp I m 2 = y) (rx : rsd p x) (ry : rsd p y) :
    ConV K yX7_modCommon wsX7_modCommon 2 51 I L A [.ref m] (fun I' L' A' => (∃ G, mp I' m 3 = G ∧ rsd p G ∧ GcdM p G x y) ∧ MU m (fun s => s = 1 ∨ s = 2 ∨ s = 3 ∨ s = 9) I I' ∧ L' = L ∧ A' = A) := by
  have one : (p : Int) ∣ 1 * 1 - 1 := ⟨0, by omega⟩
  apply w_X7_modCommon
  unfold wp_X7_modCommon wp_X7_modCommon_0
  refine ⟨fun μ I' L' A' => ∃ h l, mp I' m 1 = h ∧ mp I' m 2 = l ∧ lnP l 16 = μ ∧ rsd p h ∧ rsd p l ∧ SameI p h l x y ∧ MU m (fun s => s = 1 ∨ s = 2 ∨ s = 3 ∨ s = 9) I I' ∧ L' = L ∧ A' = A, lnP y 16, ⟨x, y, hx, hy, rfl, rx, ry, SameI.start _ x y, MU.refl _ _ _, rfl, rfl⟩, ?_⟩
  rintro μ C hC I' L' A' ⟨h, l, hh, hl, rfl, rh, rl, hs, hmu, rfl, rfl⟩
  have hl16 : dl l 16 := by rw [← hl]; exact mp_dl I' m 2
  refine ⟨hm.1, _, m_modDegree hm (show 2 < 10 by omega), ?_⟩
  rintro v I1 L1 A1 ⟨rfl, rfl, rfl, rfl⟩
  have hle := lnP_le l 16
  rw [hl, tp_lt0 (by omega)]
  refine ⟨fun z => ⟨_, m_modCopy (r := 3) (u := 1) hm (by omega) (by omega), ?_⟩, fun z => ?_⟩
  · rintro I2 L2 A2 ⟨c2, mu2, rfl, rfl⟩
    refine ⟨⟨h, by rw [c2, hh], rh, hs.fin (c := 1) (c' := 1) ?_ ?_ one⟩, hmu.trans (mu2.mono (fun s h => by omega)), rfl, rfl⟩
    · rcases lnP_res hl16 with ⟨-, w⟩ | ⟨d, w, -, -⟩
      · rw [w]; exact fun k => Int.dvd_zero _
      · omega
    · rw [show pc 1 h = h from funext fun k => by simp [pc]]; exact cg.refl _ _
  · rcases lnP_res hl16 with ⟨w, -⟩ | ⟨d, w, hd, hd16⟩
    · exact absurd w z
    have h191 : I1 m 19 = nI p := by rw [hmu.own]; exact h19
    refine ⟨_, m_reduce (r := 1) (b := 2) hm hP h191 (by omega) (by omega) (by omega) hh hl rh rl hd, ?_⟩
    rintro I2 L2 A2 ⟨⟨Q, R, hR, hQ, rR, dR, rQ, hcg, -⟩, mu2, rfl, rfl⟩
    refine ⟨_, m_modCopy (r := 3) (u := 1) hm (by omega) (by omega), ?_⟩
    rintro I3 L3 A3 ⟨c3, mu3, rfl, rfl⟩
    refine ⟨_, m_modCopy (r := 1) (u := 2) hm (by omega) (by omega), ?_⟩
    rintro I4 L4 A4 ⟨c4, mu4, rfl, rfl⟩
    refine ⟨_, m_modCopy (r := 2) (u := 3) hm (by omega) (by omega), ?_⟩
    rintro I5 L5 A5 ⟨c5, mu5, rfl, rfl⟩
    have e1 : mp I5 m 1 = l := by rw [mu5.same (show ¬ 1 = 2 by omega), c4, mu3.same (show ¬ 2 = 3 by omega), mu2.same (show ¬ (2 = 1 ∨ 2 = 9) by omega), hl]
    have e2 : mp I5 m 2 = R := by rw [c5, mu4.same (show ¬ 3 = 1 by omega), c3, hR]
    have hQf : Pf Q := ⟨16, by rw [← hQ]; exact mp_dl I2 m 9⟩
    refine hC (lnP R 16) _ _ _ ?_ ⟨l, R, e1, e2, rfl, rl, rR, hs.step (c := 1) (c' := 1) ?_ one hQf hcg, (((hmu.trans (mu2.mono (fun s h => by omega))).trans (mu3.mono (fun s h => by omega))).trans (mu4.mono (fun s h => by omega))).trans (mu5.mono (fun s h => by omega)), rfl, rfl⟩
    · rcases lnP_res (dl_mono dR (show d ≤ 16 by omega)) with ⟨w2, -⟩ | ⟨d2, w2, hd2, -⟩
      · omega
      · have := hd2.lt dR; omega
    · rw [show pc 1 l = l from funext fun k => by simp [pc]]; exact cg.refl _ _
theorem eighty {i j : Nat} (h : i + j < 16) : ((80 : Int32) + nI i + nI j).toInt = ((16 * 5 + (i + j) : Nat) : Int) := by
  have l80 : (80 : Int32).toInt = ((16 * 5 : Nat) : Int) := by decide
  rw [iadd_n (sixn l80 (by omega) (show i < 16 by omega) (tI (k := i) (by omega))) (tI (k := j) (by omega)) (by omega)]; omega
set_option maxHeartbeats 2000000 in
theorem m_modTimes {m t a b p D : Nat} {u v f : PP} (hm : isX7 K m) (hP : PmR p) (h19 : I m 19 = nI p) (ht : t < 10) (ha : a < 10) (hb : b < 10) (ht0 : t ≠ 0) (ha5 : a ≠ 5) (hb5 : b ≠ 5) (hu : mp I m a = u) (hv : mp I m b = v) (hf : mp I m 0 = f) (ru : rsd p u) (rv : rsd p v) (rf : rsd p f) (du : dl u 7) (dv' : dl v 7) (hfd : dgI f D) :
    ConV K yX7_modTimes wsX7_modTimes 2 51 I L A [.ref m, .int (nI t), .int (nI a), .int (nI b)] (fun I' L' A' => (∃ R, mp I' m t = R ∧ rsd p R ∧ dl R D ∧ dmP p f (pa (pm u v) (pc (-1) R))) ∧ MU m (fun s => s = t ∨ s = 5 ∨ s = 9) I I' ∧ L' = L ∧ A' = A) := by
  have hp1 : 1 < p := by have := hP.1.1; omega
  have hp9 := hP.2
  have l80 : (80 : Int32).toInt = ((16 * 5 : Nat) : Int) := by decide
  have l7 : (7 : Int32).toInt = 7 := by decide
  apply w_X7_modTimes
  unfold wp_X7_modTimes wp_X7_modTimes_3
  refine ⟨fun μ I' L' A' x => ∃ i, i + μ = 16 ∧ x = nI i ∧ (∀ k, k < i → mp I' m 5 k = 0) ∧ MU m (· = 5) I I' ∧ L' = L ∧ A' = A, 16, ⟨0, rfl, rfl, fun k hk => absurd hk (Nat.not_lt_zero _), MU.refl _ _ _, rfl, rfl⟩, ?_⟩
  rintro μ C hC I' L' A' _ ⟨i, hi, rfl, z1, z2, rfl, rfl⟩
  refine ⟨fun w => ?_, fun w => ?_⟩
  rotate_left
  · rw [ile, li16, tI (by omega)] at w
    have hix := sixn l80 (by omega) (show i < 16 by omega) (tI (k := i) (by omega))
    rw [ix_of hix]
    refine ⟨hm.1, mok hm (by omega) (show i < 16 by omega) hix, fun I25 e25 v26 e26 => ?_⟩
    refine hC (μ - 1) _ _ _ _ (by omega) ⟨i + 1, by omega, by rw [e26, sI], fun k hk => ?_, z2.trans (by rw [e25]; exact mu_u2 (by omega)), rfl, rfl⟩
    rw [mp_lt (by omega), e25]
    by_cases y : k = i
    · rw [y, u2_self]; rfl
    · rw [u2_ne _ _ (fun t => y (by omega)), ← mp_lt (by omega)]; exact z1 k (by omega)
  rw [ile, li16, tI (by omega)] at w
  have hi16 : i = 16 := by omega
  subst hi16
  have hz0 : mp I' m 5 = p0 := funext fun k => by
    by_cases y : k < 16
    · exact z1 k y
    · exact mp_dl I' m 5 k (by omega)
  unfold wp_X7_modTimes_30
  refine ⟨fun μ I'' L'' A'' x => ∃ i W, i + μ = 7 ∧ x = nI i ∧ mp I'' m 5 = W ∧ rsd p W ∧ cg p W (pm (ct u i) v) ∧ MU m (· = 5) I I'' ∧ L'' = L' ∧ A'' = A', 7, ⟨0, p0, rfl, rfl, hz0, fun k => ⟨by show (0 : Int) ≤ 0; omega, by show (0 : Int) < p; omega⟩, ?_, z2, rfl, rfl⟩, ?_⟩
  · rw [show ct u 0 = p0 from funext fun k => if_neg (Nat.not_lt_zero k), pm_0l]; exact cg.refl _ _
  clear hC z1 z2 hz0
  rintro μ C hC I1 L1 A1 _ ⟨i, W, hi, rfl, hW, rW, cW, hmu, rfl, rfl⟩
  have h191 : I1 m 19 = nI p := by rw [hmu.own]; exact h19
  have hf1 : mp I1 m 0 = f := (hmu.same (show ¬ 0 = 5 by omega)).trans hf
  refine ⟨fun w => ⟨hm.1, _, m_reduce (r := 5) (b := 0) hm hP h191 (by omega) (by omega) (by omega) hW hf1 rW rf hfd, ?_⟩, fun w => ?_⟩
  · rw [ile, l7, tI (by omega)] at w
    have hi7 : i = 7 := by omega
    subst hi7
    rw [ct_all du] at cW
    rintro I2 L2 A2 ⟨⟨Q, R, hR, hQ, rR, dR, rQ, hcg, -⟩, mu2, rfl, rfl⟩
    refine ⟨_, m_modCopy hm ht (show 5 < 10 by omega), ?_⟩
    rintro I3 L3 A3 ⟨c3, mu3, rfl, rfl⟩
    refine ⟨⟨R, by rw [c3, hR], rR, dR, Q, ⟨16, by rw [← hQ]; exact mp_dl I2 m 9⟩, fun k => ?_⟩, ((hmu.mono (fun s h => by omega)).trans (mu2.mono (fun s h => by omega))).trans (mu3.mono (fun s h => by omega)), rfl, rfl⟩
    show (p : Int) ∣ pm u v k + -1 * R k - pm Q f k
    have h1 : (p : Int) ∣ W k - pm u v k := cW k
    have h2 : (p : Int) ∣ W k - (pm Q f k + R k) := hcg k
    have := Int.dvd_sub h2 h1
    rw [show pm u v k + -1 * R k - pm Q f k = W k - (pm Q f k + R k) - (W k - pm u v k) by omega]
    exact this
  · rw [ile, l7, tI (by omega)] at w
    unfold wp_X7_modTimes_40
    refine ⟨fun ν I2 L2 A2 x4 x5 => ∃ j W', j + ν = 7 ∧ x4 = nI i ∧ x5 = nI j ∧ mp I2 m 5 = W' ∧ rsd p W' ∧ (∀ k, (p : Int) ∣ W' k - (pm (ct u i) v k + (if i ≤ k ∧ k < i + j then u i * v (k - i) else 0))) ∧ MU m (· = 5) I I2 ∧ L2 = L1 ∧ A2 = A1, 7, ⟨0, W, by omega, rfl, rfl, hW, rW, fun k => by rw [if_neg (by omega), Int.add_zero]; exact cW k, hmu, rfl, rfl⟩, ?_⟩
    rintro ν C' hC' I2 L2 A2 _ _ ⟨j, W', hj, rfl, rfl, hW', rW', cW', hmu', rfl, rfl⟩
    have h192 : I2 m 19 = nI p := by rw [hmu'.own]; exact h19
    refine ⟨fun q v1 e1 => ?_, fun q => ?_⟩
    · rw [ile, l7, tI (by omega)] at q
      refine hC (μ - 1) _ _ _ _ (by omega) ⟨i + 1, W', by omega, by rw [e1, sI], hW', rW', fun k => ?_, hmu', rfl, rfl⟩
      rw [pm_ct]
      have h1 := cW' k
      by_cases y1 : i ≤ k
      · rw [if_pos y1]
        by_cases y2 : k < i + j
        · rw [if_pos ⟨y1, y2⟩] at h1; exact h1
        · rw [if_neg (fun t => y2 t.2)] at h1
          rw [dv' (k - i) (by omega), Int.mul_zero]; exact h1
      · rw [if_neg y1]
        rw [if_neg (fun t => y1 t.1)] at h1; exact h1
    · rw [ile, l7, tI (by omega)] at q
      have hix5 := eighty (show i + j < 16 by omega)
      have hixa := mix ha (show i < 16 by omega) (x := nI a) rfl (tI (k := i) (by omega))
      have hixb := mix hb (show j < 16 by omega) (x := nI b) rfl (tI (k := j) (by omega))
      rw [ix_of hix5, ix_of hixa, ix_of hixb]
      obtain ⟨w0, hw0p, hw0⟩ := rW'.nat (i + j)
      obtain ⟨ui, huip, hui⟩ := ru.nat i
      obtain ⟨vj, hvjp, hvj⟩ := rv.nat j
      have e1 : (I2 (m + 8) (16 * 5 + (i + j))).toInt = w0 := by rw [← mp_lt (by omega), hW', hw0]
      have e2 : (I2 (m + 8) (16 * a + i)).toInt = ui := by rw [← mp_lt (by omega), hmu'.same (show ¬ a = 5 from ha5), hu, hui]
      have e3 : (I2 (m + 8) (16 * b + j)).toInt = vj := by rw [← mp_lt (by omega), hmu'.same (show ¬ b = 5 from hb5), hv, hvj]
      have hml := mul_lt huip hvjp hp9
      obtain ⟨hres, hne⟩ := irem_n (iadd_n e1 (imul_n e2 e3 (by omega)) (by omega)) (show (I2 m 19).toInt = p by rw [h192]; exact tI (by omega)) (by omega)
      have ok5 : aok (cxS K) (m + 8) 0 (80 + nI i + nI j) := mok hm (show 5 < 10 by omega) (by omega) hix5
      refine ⟨hm.1, ok5, mok hm ha (by omega) hixa, mok hm hb (by omega) hixb, hne, ok5, fun I8 e8 v9 e9 => ?_⟩
      rw [hres] at e8
      have hmlt := Nat.mod_lt (w0 + ui * vj) (show 0 < p by omega)
      have hW8 : ∀ k, mp I8 m 5 k = if k = i + j then (((w0 + ui * vj) % p : Nat) : Int) else W' k := fun k => by
        by_cases y : k < 16
        · rw [mp_lt y, e8]
          by_cases y2 : k = i + j
          · rw [y2, u2_self, if_pos rfl, tI (by omega)]
          · rw [u2_ne _ _ (fun t => y2 (by omega)), if_neg y2, ← mp_lt y, hW']
        · rw [mp_dl I8 m 5 k (by omega), if_neg (by omega), ← hW', mp_dl I2 m 5 k (by omega)]
      refine hC' (ν - 1) _ _ _ _ _ (by omega) ⟨j + 1, mp I8 m 5, by omega, rfl, by rw [e9, sI], rfl, fun k => ?_, fun k => ?_, hmu'.trans (by rw [e8]; exact mu_u2 (by omega)), rfl, rfl⟩
      · rw [hW8]
        split
        · omega
        · exact rW' k
      · rw [hW8]
        have h1 := cW' k
        by_cases y : k = i + j
        · subst y
          rw [if_pos rfl, if_pos ⟨by omega, by omega⟩, show i + j - i = j by omega, hui, hvj]
          rw [if_neg (by omega), Int.add_zero, hw0] at h1
          have := Nat.div_add_mod (w0 + ui * vj) p
          obtain ⟨c, hc⟩ := h1
          refine ⟨c - ((w0 + ui * vj) / p : Nat), ?_⟩
          rw [Int.mul_sub, ← hc]
          have e5 : (p : Int) * ((w0 + ui * vj) / p : Nat) + ((w0 + ui * vj) % p : Nat) = w0 + ui * vj := by
            rw [← Int.natCast_mul, ← Int.natCast_add, this]; simp
          omega
        · rw [if_neg y]
          by_cases y3 : i ≤ k ∧ k < i + j
          · rw [if_pos y3] at h1; rw [if_pos ⟨y3.1, by omega⟩]; exact h1
          · rw [if_neg y3] at h1; rw [if_neg (fun t => y3 ⟨t.1, by omega⟩)]; exact h1
end
