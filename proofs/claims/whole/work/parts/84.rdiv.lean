/-! THE REFERENCE: divides, with numbers that may wrap around at the last step -/
section
variable {K : Cx} {I : TI} {L : TL} {A : TA}
/-- the same modulo 2^64 -/
def w64 (x y : Int) : Prop := (18446744073709551616 : Int) ∣ x - y
theorem w64.refl (x : Int) : w64 x x := ⟨0, by omega⟩
theorem w64.trans {x y z : Int} (h : w64 x y) (h' : w64 y z) : w64 x z := by
  have := Int.dvd_add h h'
  rw [show x - y + (y - z) = x - z by omega] at this
  exact this
theorem w64.symm {x y : Int} (h : w64 x y) : w64 y x := by
  have := Int.dvd_neg.mpr h
  rw [show -(x - y) = y - x by omega] at this
  exact this
theorem w64.sub {x y x' y' : Int} (h : w64 x x') (h' : w64 y y') : w64 (x - y) (x' - y') := by
  have := Int.dvd_sub h h'
  rw [show x - x' - (y - y') = x - y - (x' - y') by omega] at this
  exact this
theorem w64.eq {x y : Int} (h : w64 x y) (hx : -9223372036854775808 ≤ x ∧ x < 9223372036854775808) (hy : -9223372036854775808 ≤ y ∧ y < 9223372036854775808) : x = y := by
  obtain ⟨c, hc⟩ := h
  omega
theorem w64_submul (a b c : Int64) : w64 (a - b * c).toInt (a.toInt - b.toInt * c.toInt) := by
  have h1 : w64 (a - b * c).toInt (a.toInt - (b * c).toInt) := by
    rw [Int64.toInt_sub]; exact Int.dvd_bmod_sub_self
  have h2 : w64 (b * c).toInt (b.toInt * c.toInt) := by
    rw [Int64.toInt_mul]; exact Int.dvd_bmod_sub_self
  exact h1.trans (w64.sub (w64.refl _) h2)
theorem jrng (a : Int64) : -9223372036854775808 ≤ a.toInt ∧ a.toInt < 9223372036854775808 := ⟨Int64.le_toInt a, Int64.toInt_lt a⟩
theorem rp_rng (L : TL) (m r k : Nat) : -9223372036854775808 ≤ rp L m r k ∧ rp L m r k < 9223372036854775808 := by
  unfold rp
  split
  · exact jrng _
  · omega
theorem sevn {c : Int32} {r k : Nat} (hc : c.toInt = ((8 * r : Nat) : Int)) (hr : r < 30) (hk : k < 8) {x : Int32} (hx : x = nI k) : (c + x).toInt = ((8 * r + k : Nat) : Int) := by
  rw [iadd (by rw [hc, hx, tI (by omega)]; omega) (by rw [hc, hx, tI (by omega)]; omega), hc, hx, tI (by omega)]; omega
set_option maxHeartbeats 4000000 in
/-- divides(by, a). MB: the places of by below its lead; MA: the places of a; the numbers are exact but for the last step, and there they are if they come out as 0 -/
theorem m_divides {m y a e da MA MB : Nat} (hm : isX7 K m) (hy : y < 30) (ha : a < 30) (hy9 : y ≠ 9) (hy11 : y ≠ 11) (ha9 : a ≠ 9) (ha11 : a ≠ 11) (hye : dgI (rp L m y) e) (hda : lnP (rp L m a) 8 = da) (hMA : ∀ k, (rp L m a k).natAbs ≤ MA) (hMB : ∀ k, k < e → (rp L m y k).natAbs ≤ MB)
    (hN : MA * (1 + MB) ^ (da - e - 1) < 9223372036854775808) (hL : MA * (1 + MB) ^ (da - e) < 9223372036854775808 ∨ (rp L m y 0 ≠ 0 ∧ 0 < e ∧ MA + (rp L m y 0).natAbs * (MA * (1 + MB) ^ (da - e - 1)) < 9223372036854775808 ∧ MA * (1 + MB) ^ (da - e - 1) + MA * MB < 9223372036854775808)) :
    ConI K yX7_divides wsX7_divides 2 43 I L A [.ref m, .int (nI y), .int (nI a)] (fun v I' L' A' => ((v = 1 ∧ pm (rp L m y) (rp L' m 11) = rp L m a) ∨ (v = 0 ∧ ∀ q, Pf q → (∀ k, (rp L m y e * q k).natAbs < 9223372036854775808) → pm (rp L m y) q ≠ rp L m a)) ∧ RU m (fun r => r = 9 ∨ r = 11) L L' ∧ I' = I ∧ A' = A) := by
  obtain ⟨b, hb⟩ : ∃ b : PP, b = rp L m y := ⟨_, rfl⟩
  obtain ⟨f, hf⟩ : ∃ f : PP, f = rp L m a := ⟨_, rfl⟩
  rw [← hb] at hye hMB hL ⊢
  rw [← hf] at hda hMA ⊢
  have he8 : e < 8 := by rw [hb] at hye; exact hye.lt (rp_dl L m y)
  have hda8 : da ≤ 8 := by rw [← hda]; exact lnP_le _ 8
  have hfd : dl f da := by
    intro k hk
    by_cases q : f k = 0
    · exact q
    · have hf0 : f ≠ p0 := fun z => q (by rw [z]; rfl)
      obtain ⟨d, hd1, hd2, hd3⟩ := dg_ex f 8 (by rw [hf]; exact rp_dl L m a) hf0
      rw [lnP_of hd3 (fun x hx => by rw [show x = d by omega]; exact hd2) (by omega)] at hda
      exact absurd (hd3 k (by omega)) q
  have nb : ∀ r, (r = y) → ¬ (r = 9 ∨ r = 11) := fun r h => by omega
  have hMp : ∀ s, MA * (1 + MB) ^ s ≤ MA * (1 + MB) ^ (s + 1) := fun s => by
    rw [Nat.pow_succ, ← Nat.mul_assoc]; exact Nat.le_mul_of_pos_right _ (by omega)
  have hMm : ∀ s t, s ≤ t → MA * (1 + MB) ^ s ≤ MA * (1 + MB) ^ t := fun s t h => Nat.mul_le_mul_left MA (Nat.pow_le_pow_right (by omega) h)
  apply w_X7_divides
  unfold wp_X7_divides
  refine ⟨hm.1, _, m_copy hm (show 9 < 30 by omega) ha, ?_⟩
  rintro I1 L1 A1 ⟨h1, hru1, rfl, rfl⟩
  refine ⟨_, m_clear hm (show 11 < 30 by omega), ?_⟩
  rintro I2 L2 A2 ⟨h2, hru2, rfl, rfl⟩
  have hru : RU m (fun r => r = 9 ∨ r = 11) L L2 := (hru1.mono (fun r h => Or.inl h)).trans (hru2.mono (fun r h => Or.inr h))
  have hy2 : rp L2 m y = b := by rw [hb]; exact hru.same (nb y rfl)
  have ha2 : rp L2 m a = f := by rw [hf]; exact hru.same (by omega)
  have h92 : rp L2 m 9 = f := by rw [hru2.same (show ¬ (9 = 11) by decide), h1, hf]
  refine ⟨_, m_degreeOf hm hy, ?_⟩
  rintro v I3 L3 A3 ⟨rfl, rfl, rfl, rfl⟩
  have hly : lnP (rp L3 m y) 8 = e + 1 := by rw [hy2]; exact lnP_of hye.2 (fun x hx => by rw [show x = e by omega]; exact hye.1) (by omega)
  rw [hly, tp_s]
  have hixe := rix hy he8 (x := nI y) rfl (tI (k := e) (by omega))
  refine ⟨rok hm hy he8 hixe, fun v41 e41 => ⟨_, m_degreeOf hm ha, ?_⟩⟩
  rw [ix_of hixe] at e41
  have h41 : v41.toInt = b e := by rw [e41, ← rp_lt he8, hy2]
  have h410 : ¬ v41 = 0 := fun z => hye.1 (by rw [← h41, z]; rfl)
  rintro v I4 L4 A4 ⟨rfl, rfl, rfl, rfl⟩ v48 e48
  rw [ha2, hda] at e48
  have h48 : v48.toInt = (da : Int) - 1 - e := by rw [e48, isub (by rw [tm1 (by omega), tI (by omega)]; omega) (by rw [tm1 (by omega), tI (by omega)]; omega), tm1 (by omega), tI (by omega)]
  unfold wp_X7_divides_41
  refine ⟨fun μ I' L' A' x3 x4 x6 => (x6.toInt = (μ : Int) - 1 ∨ (μ = 0 ∧ x6.toInt < 0)) ∧ μ ≤ da - e ∧ x3 = nI e ∧ v41 = x4 ∧ RU m (fun r => r = 9 ∨ r = 11) L L' ∧ (∀ j, w64 (rp L' m 9 j) (f j - pm b (rp L' m 11) j)) ∧ (∀ j, j < μ → rp L' m 11 j = 0) ∧ ((0 < μ ∨ da ≤ e ∨ MA * (1 + MB) ^ (da - e) < 9223372036854775808) → ∀ j, rp L' m 9 j = f j - pm b (rp L' m 11) j ∧ (rp L' m 9 j).natAbs ≤ MA * (1 + MB) ^ (da - e - μ)) ∧ (μ = 0 → e < da → ∃ g : PP, (∀ j, (g j).natAbs ≤ MA * (1 + MB) ^ (da - e - 1)) ∧ (∀ j, g j = f j - pm b (rp L' m 11) j + rp L' m 11 0 * b j) ∧ (rp L' m 11 0).natAbs ≤ MA * (1 + MB) ^ (da - e - 1) ∧ g e = b e * rp L' m 11 0) ∧ (∀ q, Pf q → pm b q = f → (∀ k, (b e * q k).natAbs < 9223372036854775808) → ∀ j, μ ≤ j → q j = rp L' m 11 j) ∧ I' = I4 ∧ A' = A4, da - e, ?_, ?_⟩
  · have e11 : pm b (rp L4 m 11) = p0 := by rw [h2]; funext j; rw [pm_comm, pm_0l]
    refine ⟨?_, Nat.le_refl _, rfl, rfl, hru, fun j => ?_, fun j _ => by rw [h2]; rfl, fun _ j => ?_, fun h0 h1 => by omega, fun q hq hqf hqb j hj => ?_, rfl, rfl⟩
    · rcases Nat.lt_or_ge e da with z | z
      · left; rw [h48]; omega
      · right; exact ⟨by omega, by rw [h48]; omega⟩
    · rw [h92, e11]; show w64 (f j) (f j - 0); rw [Int.sub_zero]; exact w64.refl _
    · rw [h92, e11, Nat.sub_self, Nat.pow_zero, Nat.mul_one]
      exact ⟨by show f j = f j - 0; omega, hMA j⟩
    · rw [h2]
      by_cases z : q j = 0
      · rw [z]; rfl
      · have hq0 : q ≠ p0 := fun w => z (by rw [w]; rfl)
        obtain ⟨n, hn⟩ := hq.dg hq0
        have h3 : dgI f (e + n) := by rw [← hqf]; exact hye.mul hn
        have h4 := h3.lt hfd
        have h5 : j ≤ n := by
          rcases Nat.lt_or_ge n j with w | w
          · exact absurd (hn.2 j w) z
          · exact w
        omega
  rintro μ C hC I' L' A' _ _ x6 ⟨hx6, hμ, rfl, rfl, hru', hw, hq0, hex, hlast, hcom, rfl, rfl⟩
  have hy' : rp L' m y = b := by rw [hb]; exact hru'.same (nb y rfl)
  refine ⟨fun z => ⟨hm.1, _, m_isZero hm (show 9 < 30 by omega), ?_⟩, fun z => ?_⟩
  · rw [ilt, li0] at z
    have hμ0 : μ = 0 := by rcases hx6 with w | w <;> omega
    subst hμ0
    rintro r I5 L5 A5 ⟨hr, rfl, rfl, rfl⟩
    refine ⟨by rcases hr with ⟨w, -⟩ | ⟨w, -⟩ <;> simp [w], ?_, hru', rfl, rfl⟩
    rcases hr with ⟨rfl, hz⟩ | ⟨rfl, hz⟩
    · left
      refine ⟨rfl, ?_⟩
      -- 0 comes out: then it is so
      have exact0 : ∀ j, rp L5 m 9 j = f j - pm b (rp L5 m 11) j := by
        by_cases hA' : da ≤ e ∨ MA * (1 + MB) ^ (da - e) < 9223372036854775808
        · exact fun j => (hex (Or.inr hA') j).1
        · have hed : e < da := by
            rcases Nat.lt_or_ge e da with w | w
            · exact w
            · exact absurd (Or.inl w) hA'
          rcases hL with w | ⟨hb0, he0, hB1, hB2⟩
          · exact absurd (Or.inr w) hA'
          obtain ⟨g, hg1, hg2, hg3, hg4⟩ := hlast rfl hed
          have hc0 : pm b (rp L5 m 11) 0 = b 0 * rp L5 m 11 0 := rfl
          have hf0 := hMA 0
          have hq00 := hg3
          have hbm := mul_ab (Nat.le_refl (b 0).natAbs) hq00
          have ez : f 0 - b 0 * rp L5 m 11 0 = 0 := by
            have h3 := hw 0
            rw [hc0, hz] at h3
            exact (w64.eq h3 (by simp [p0]) (by omega)).symm
          have hqs : (rp L5 m 11 0).natAbs ≤ MA := by
            have h3 : (rp L5 m 11 0).natAbs ≤ (b 0 * rp L5 m 11 0).natAbs := by rw [Int.natAbs_mul]; exact Nat.le_mul_of_pos_left _ (Int.natAbs_pos.mpr hb0)
            rw [show b 0 * rp L5 m 11 0 = f 0 by omega] at h3
            omega
          intro j
          refine w64.eq (hw j) (rp_rng _ _ _ _) ?_
          have hgj := hg1 j
          have hgj2 := hg2 j
          by_cases hje : j < e
          · have h4 := mul_ab hqs (hMB j hje)
            omega
          · by_cases hj2 : j = e
            · subst hj2
              rw [hg4, Int.mul_comm] at hgj2
              omega
            · have hbj : b j = 0 := hye.2 j (by omega)
              rw [hbj, Int.mul_zero] at hgj2
              omega
      funext j
      have := exact0 j
      rw [hz] at this
      simp only [p0] at this
      omega
    · right
      refine ⟨rfl, fun q hq hqb hqf => hz ?_⟩
      have hqq : q = rp L5 m 11 := funext fun j => hcom q hq hqf hqb j (Nat.zero_le j)
      funext j
      have h3 := hw j
      rw [← hqq, hqf, Int.sub_self] at h3
      show rp L5 m 9 j = 0
      exact w64.eq h3 (rp_rng _ _ _ _) (by omega)
  · rw [ilt, li0] at z
    have hx1 : x6.toInt = (μ : Int) - 1 := by rcases hx6 with w | w <;> omega
    obtain ⟨k, rfl⟩ : ∃ k, μ = k + 1 := ⟨μ - 1, by omega⟩
    have hxk : x6 = nI k := eqn (by rw [hx1]; omega)
    subst hxk
    have hke : k + e < da := by omega
    have ex := hex (Or.inl (by omega))
    have hMs : MA * (1 + MB) ^ (da - e - (k + 1)) < 9223372036854775808 := Nat.lt_of_le_of_lt (hMm _ _ (by omega)) hN
    have h72 : ((72 : Int32) + nI k).toInt = ((8 * 9 + k : Nat) : Int) := sevn (by decide) (by omega) (by omega) rfl
    have hixt : ((72 : Int32) + nI k + nI e).toInt = ((8 * 9 + (k + e) : Nat) : Int) := by rw [iadd (by rw [h72, tI (by omega)]; omega) (by rw [h72, tI (by omega)]; omega), h72, tI (by omega)]; omega
    have hix88 : ((88 : Int32) + nI k).toInt = ((8 * 11 + k : Nat) : Int) := sevn (by decide) (by omega) (by omega) rfl
    -- what an exact quotient says of this place
    have hpl : ∀ q, Pf q → pm b q = f → (∀ k, (b e * q k).natAbs < 9223372036854775808) → rp L' m 9 (k + e) = b e * q k := by
      intro q hq hqf hqb
      have e3 : q = pa (rp L' m 11) (ct q (k + 1)) := funext fun j => by
        show q j = rp L' m 11 j + ct q (k + 1) j
        by_cases w : j < k + 1
        · rw [ct_lt w, hq0 j w]; omega
        · rw [ct_dl q (k + 1) j (by omega), hcom q hq hqf hqb j (by omega)]; omega
      have e4 : f (k + e) = pm b (rp L' m 11) (k + e) + pm b (ct q (k + 1)) (k + e) := by
        rw [← hqf]
        conv => lhs; rw [e3]
        exact pm_add_r b _ _ _ _
      have e5 : pm b (ct q (k + 1)) (k + e) = b e * q k := by
        rw [show k + e = e + k by omega, pm_top e b (ct q (k + 1)) k hye.2 (ct_dl q (k + 1)), ct_lt (by omega)]
      rw [(ex (k + e)).1, e4, e5]; omega
    refine ⟨hm.1, rok hm (show 9 < 30 by omega) (show k + e < 8 by omega) hixt, fun v17 e17 => ⟨h410, fun hrem => ⟨h410, fun v20 e20 => ⟨rok hm (show 11 < 30 by omega) (show k < 8 by omega) hix88, fun L22 e22 => ?_⟩⟩, fun hrem => ?_⟩⟩
    · rw [ix_of hixt] at e17
      rw [ix_of hix88] at e22
      have h17 : v17.toInt = rp L' m 9 (k + e) := by rw [e17, rp_lt (by omega)]
      have hb17 := (ex (k + e)).2
      rw [← h17] at hb17
      have hdv : rp L' m 9 (k + e) = b e * v20.toInt := by
        rw [j0, jrem v17 v41 (by omega), h41, h17] at hrem
        rw [e20, jdiv (by omega), h41, h17]
        exact (Int.mul_tdiv_cancel' (Int.dvd_of_tmod_eq_zero hrem)).symm
      have hv20 : v20.toInt.natAbs ≤ MA * (1 + MB) ^ (da - e - (k + 1)) := by
        have h3 : v20.toInt.natAbs ≤ (b e * v20.toInt).natAbs := by rw [Int.natAbs_mul]; exact Nat.le_mul_of_pos_left _ (Int.natAbs_pos.mpr hye.1)
        rw [← hdv] at h3
        exact Nat.le_trans h3 (ex (k + e)).2
      have hru22 : RU m (fun r => r = 9 ∨ r = 11) L L22 := hru'.trans (by rw [e22]; exact (u2_ru (r := 11) (by omega)).mono (fun r h => Or.inr h))
      have h11 : rp L22 m 11 = pa (rp L' m 11) (mono k v20.toInt) := funext fun j => by
        show rp L22 m 11 j = rp L' m 11 j + (if j = k then v20.toInt else 0)
        by_cases w : j < 8
        · rw [rp_lt w, e22]
          by_cases w2 : j = k
          · subst w2
            rw [u2_self, if_pos rfl, hq0 j (by omega)]; omega
          · rw [u2_ne _ _ (fun t => w2 (by omega)), if_neg w2, rp_lt w]; omega
        · rw [rp, if_neg w, rp, if_neg w, if_neg (by omega)]; rfl
      have h922 : ∀ j, j < 8 → L22 (m + 1) (8 * 9 + j) = L' (m + 1) (8 * 9 + j) := fun j hj => by rw [e22, u2_ne _ _ (fun t => by omega)]
      unfold wp_X7_divides_94
      refine ⟨fun ν I'' L'' A'' x3 x4 x6 x9 x11 => ∃ j : Nat, j + ν = e + 1 ∧ x3 = nI e ∧ v41 = x4 ∧ x6 = nI k ∧ v20 = x9 ∧ x11 = nI j ∧ RU m (fun r => r = 9 ∨ r = 11) L L'' ∧ rp L'' m 11 = rp L22 m 11 ∧ (∀ t, w64 (rp L'' m 9 t) (rp L' m 9 t - (if k ≤ t ∧ t < k + j then v20.toInt * b (t - k) else 0))) ∧ I'' = I' ∧ A'' = A', e + 1, ⟨0, by omega, rfl, rfl, rfl, rfl, rfl, hru22, rfl, fun t => ?_, rfl, rfl⟩, ?_⟩
      · rw [if_neg (by omega), Int.sub_zero]
        by_cases w : t < 8
        · rw [rp_lt w, h922 t w, rp_lt w]; exact w64.refl _
        · rw [rp, if_neg w, rp, if_neg w]; exact w64.refl _
      rintro ν C' hC' I'' L'' A'' _ _ _ _ _ ⟨j, hj, rfl, rfl, rfl, rfl, rfl, hru3, h11', hw3, rfl, rfl⟩
      have hy3 : rp L'' m y = b := by rw [hb]; exact hru3.same (nb y rfl)
      refine ⟨fun hend v1 e1 => ?_, fun hmore => ?_⟩
      · rw [ilt, tI (by omega), tI (by omega)] at hend
        have hje : j = e + 1 := by omega
        subst hje
        have h11n : rp L'' m 11 = pa (rp L' m 11) (mono k v20.toInt) := by rw [h11', h11]
        have hpmn : ∀ t, pm b (rp L'' m 11) t = pm b (rp L' m 11) t + (if k ≤ t then v20.toInt * b (t - k) else 0) := fun t => by
          rw [h11n, pm_add_r b, mulT]
        have hw4 : ∀ t, w64 (rp L'' m 9 t) (rp L' m 9 t - (if k ≤ t then v20.toInt * b (t - k) else 0)) := fun t => by
          have h3 := hw3 t
          by_cases w : k ≤ t
          · rw [if_pos w]
            by_cases w2 : t < k + (e + 1)
            · rw [if_pos ⟨w, w2⟩] at h3; exact h3
            · rw [if_neg (fun u => w2 u.2)] at h3
              rw [hye.2 (t - k) (by omega), Int.mul_zero]; exact h3
          · rw [if_neg w]
            rw [if_neg (fun u => w u.1)] at h3; exact h3
        have hbd : ∀ t, (rp L' m 9 t - (if k ≤ t then v20.toInt * b (t - k) else 0)).natAbs ≤ MA * (1 + MB) ^ (da - e - k) := fun t => by
          have b1 := (ex t).2
          have b3 : MA * (1 + MB) ^ (da - e - k) = MA * (1 + MB) ^ (da - e - (k + 1)) + MA * (1 + MB) ^ (da - e - (k + 1)) * MB := by
            rw [show da - e - k = (da - e - (k + 1)) + 1 by omega, Nat.pow_succ, ← Nat.mul_assoc, Nat.mul_add, Nat.mul_one]
          by_cases w : k ≤ t
          · rw [if_pos w]
            by_cases w2 : t - k < e
            · have b2 := mul_ab hv20 (hMB (t - k) w2)
              omega
            · by_cases w3 : t = k + e
              · subst w3
                rw [show k + e - k = e by omega, hdv, Int.mul_comm v20.toInt, Int.sub_self]; simp
              · rw [hye.2 (t - k) (by omega), Int.mul_zero, Int.sub_zero]; omega
          · rw [if_neg w, Int.sub_zero]; omega
        refine hC k _ _ _ _ _ _ (by omega) ⟨Or.inl ?_, by omega, rfl, rfl, hru3, fun t => ?_, fun t ht => ?_, fun hcase t => ?_, fun h0 hed => ?_, fun q hq hqf hqb t ht => ?_, rfl, rfl⟩
        · rw [e1, iadd (by rw [tI (by omega), lim1]; omega) (by rw [tI (by omega), lim1]; omega), tI (by omega), lim1]; omega
        · rw [hpmn t]
          have h3 := hw4 t
          rw [(ex t).1] at h3
          rw [show f t - (pm b (rp L' m 11) t + (if k ≤ t then v20.toInt * b (t - k) else 0)) = f t - pm b (rp L' m 11) t - (if k ≤ t then v20.toInt * b (t - k) else 0) by omega]
          exact h3
        · rw [h11n]
          show rp L' m 11 t + (if t = k then v20.toInt else 0) = 0
          rw [hq0 t (by omega), if_neg (by omega)]; rfl
        · have hM2 : MA * (1 + MB) ^ (da - e - k) < 9223372036854775808 := by
            rcases hcase with w | w | w
            · exact Nat.lt_of_le_of_lt (hMm (da - e - k) (da - e - 1) (by clear hlast hex hC hC' hL; omega)) hN
            · omega
            · exact Nat.lt_of_le_of_lt (hMm (da - e - k) (da - e) (Nat.sub_le _ _)) w
          have b4 := hbd t
          have h5 := w64.eq (hw4 t) (rp_rng _ _ _ _) (by omega)
          rw [hpmn t, h5]
          exact ⟨by rw [(ex t).1]; omega, b4⟩
        · subst h0
          have hz0 : rp L'' m 11 0 = v20.toInt := by
            rw [h11n]
            show rp L' m 11 0 + (if 0 = 0 then v20.toInt else 0) = _
            rw [hq0 0 (by omega), if_pos rfl]; omega
          refine ⟨rp L' m 9, fun t => (ex t).2, fun t => ?_, by rw [hz0]; exact hv20, ?_⟩
          · rw [hz0, hpmn t, if_pos (Nat.zero_le t), Nat.sub_zero, (ex t).1]; omega
          · rw [hz0, ← hdv, Nat.zero_add]
        · rw [h11n]
          show q t = rp L' m 11 t + (if t = k then v20.toInt else 0)
          by_cases w : t = k
          · subst w
            rw [if_pos rfl, hq0 t (by omega)]
            have e5 := hpl q hq hqf hqb
            rw [hdv] at e5
            have := Int.eq_of_mul_eq_mul_left hye.1 e5
            omega
          · rw [if_neg w, Int.add_zero]; exact hcom q hq hqf hqb t (by omega)
      · rw [ilt, tI (by omega), tI (by omega)] at hmore
        have hixj : ((72 : Int32) + nI k + nI j).toInt = ((8 * 9 + (k + j) : Nat) : Int) := by rw [iadd (by rw [h72, tI (by omega)]; omega) (by rw [h72, tI (by omega)]; omega), h72, tI (by omega)]; omega
        have hixb := rix hy (show j < 8 by omega) (x := nI y) rfl (tI (k := j) (by omega))
        have hok9 : aok (cxS K) (m + 1) 1 (72 + nI k + nI j) := rok hm (show 9 < 30 by omega) (show k + j < 8 by omega) hixj
        refine ⟨hm.1, hok9, rok hm hy (show j < 8 by omega) hixb, hok9, fun L6 e6 v7 e7 => ?_⟩
        rw [ix_of hixj, ix_of hixb] at e6
        have eb : (L'' (m + 1) (8 * y + j)).toInt = b j := by rw [← rp_lt (by omega), hy3]
        have hru6 : RU m (· = 9) L'' L6 := by rw [e6]; exact u2_ru (by omega)
        refine hC' (ν - 1) _ _ _ _ _ _ _ _ (by omega) ⟨j + 1, by omega, rfl, rfl, rfl, rfl, by rw [e7, sI], hru3.trans (hru6.mono (fun r h => Or.inl h)), (hru6.same (show ¬ (11 = 9) by decide)).trans h11', fun t => ?_, rfl, rfl⟩
        by_cases w : t < 8
        · by_cases w2 : t = k + j
          · subst w2
            have h3 := hw3 (k + j)
            rw [if_neg (by omega), Int.sub_zero, rp_lt w] at h3
            rw [rp_lt w, e6, u2_self, if_pos ⟨by omega, by omega⟩, show k + j - k = j by omega]
            refine (w64_submul _ _ _).trans ?_
            rw [eb]
            exact w64.sub h3 (w64.refl _)
          · rw [rp_lt w, e6, u2_ne _ _ (fun u => w2 (by omega)), ← rp_lt w]
            have h3 := hw3 t
            by_cases w3 : k ≤ t ∧ t < k + j
            · rw [if_pos w3] at h3
              rw [if_pos ⟨w3.1, by omega⟩]; exact h3
            · rw [if_neg w3] at h3
              rw [if_neg (fun u => w3 ⟨u.1, by omega⟩)]; exact h3
        · have h3 := hw3 t
          rw [if_neg (by omega)] at h3
          rw [if_neg (by omega)]
          rw [rp, if_neg w] at h3 ⊢
          exact h3
    · rw [ix_of hixt] at e17
      have h17 : v17.toInt = rp L' m 9 (k + e) := by rw [e17, rp_lt (by omega)]
      have hb17 := (ex (k + e)).2
      rw [← h17] at hb17
      refine ⟨Or.inr ⟨rfl, fun q hq hqb hqf => hrem ?_⟩, hru', rfl, rfl⟩
      rw [j0, jrem v17 v41 (by omega), h41, h17, hpl q hq hqf hqb]
      exact Int.mul_tmod_right _ _
end
