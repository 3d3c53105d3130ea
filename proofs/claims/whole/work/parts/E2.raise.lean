/-! RESIDUES: findQuotient, raise, compose -/
section
variable {K : Cx} {I : TI} {L : TL} {A : TA}
theorem jb_sh : ∀ b, b < 31 → (Int32.toInt64 (nI b) &&& 63).toBitVec.smod 64 = BitVec.ofNat 64 b := by decide
theorem jb_and (x : Int64) : (x &&& 1 = 1) ↔ x.toBitVec.getLsbD 0 = true := by
  rw [← Int64.toBitVec_inj, Int64.toBitVec_and]
  have e1 : (1 : Int64).toBitVec = 1#64 := rfl
  rw [e1, ← BitVec.toNat_inj, BitVec.toNat_and, show (1#64).toNat = 1 from rfl, Nat.and_one_is_mod]
  unfold BitVec.getLsbD
  rw [Nat.testBit_eq_decide_div_mod_eq]
  simp
theorem jbit {j : Int64} {n b : Nat} (hj : j.toInt = n) (hb : b < 31) : (((j >>> (Int32.toInt64 (nI b) &&& 63)) &&& 1) = 1) ↔ n / 2 ^ b % 2 = 1 := by
  rw [jb_and, Int64.toBitVec_shiftRight, jb_sh b hb, BitVec.sshiftRight_eq', BitVec.toNat_ofNat, Nat.mod_eq_of_lt (by omega), BitVec.getLsbD_sshiftRight]
  have hn : j.toBitVec.toNat = n := by
    have h1 := Int64.toInt_lt j
    have e : j.toBitVec.toInt = (n : Int) := hj
    rw [BitVec.toInt_eq_toNat_cond] at e
    have h2 := j.toBitVec.isLt
    split at e <;> omega
  rw [if_pos (by omega)]
  unfold BitVec.getLsbD
  rw [hn, Nat.add_zero, Nat.testBit_eq_decide_div_mod_eq]
  simp
theorem RowN.le {r d e : Nat} (h : RowN I L r d) (hd : dl (pl L r) e) : d ≤ e := by
  rcases Nat.lt_or_ge e d with q | q
  · obtain ⟨k, rfl⟩ : ∃ k, d = k + 1 := ⟨d - 1, by omega⟩
    exact absurd (hd k (by omega)) (h.2 k rfl)
  · exact q
/-- findQuotient(out, a, m) -/
theorem s_findQuotient {o out a m da e p : Nat} (ho : isX3 K o) (h : isRow K out) (ha : isRow K a) (hm : isRow K m) (h1 : out ≠ a) (h2 : out ≠ m) (h3 : out ≠ o + 2) (h4 : a ≠ o + 2) (h5 : m ≠ o + 2) (hp : mdl L o = p) (hp1 : 1 < p) (hp2 : p < 67108864) (ra : rsd p (pl L a)) (rm : rsd p (pl L m)) (sa : St I L a da) (sm : St I L m (e + 1)) (hl : pl L m e = 1) : ConV K yX3_findQuotient wsX3_findQuotient 2 61 I L A [.ref o, .ref out, .ref a, .ref m] (fun I' L' A' => (∃ r, dl r e ∧ cg p (pl L a) (pa (pm (pl L' out) (pl L m)) r)) ∧ rsd p (pl L' out) ∧ dl (pl L' out) (da - e) ∧ (∃ d', RowN I' L' out d') ∧ ChR (fun y => y = out ∨ y = o + 2) I I' L L' ∧ A' = A) := by
  have ho1 := x3_ne ho.1 h
  have ho2 := x3_ne ho.1 ho.2.1
  have hda := sa.2.1
  have he := sm.2.1
  apply w_X3_findQuotient
  unfold wp_X3_findQuotient
  refine ⟨h.1, _, s_clear h, ?_⟩
  rintro I1 L1 A1 ⟨hz, hc1, rfl⟩
  refine ⟨ho.1, ho.2.1.1, _, s_become ho.2.1 ha, ?_⟩
  rintro I2 L2 A2 ⟨e1, e2, rfl⟩
  have hc2 : ChR (fun y => y = out ∨ y = o + 2) I I2 L L2 := by
    refine ChR.trans (hc1.mono (fun y hy => Or.inl hy)) ?_
    rw [e1, e2]
    exact become_ch.mono (fun y hy => Or.inr hy)
  have na : ¬ (a = out ∨ a = o + 2) := by omega
  have nm : ¬ (m = out ∨ m = o + 2) := by omega
  have sa2 := sa.ch hc2 na
  have sm2 := sm.ch hc2 nm
  have hpa : pl L2 (o + 2) = pl L a := by
    unfold pl
    rw [e2, us_self, hc1.l (Ne.symm h1)]
  have hpo : pl L2 out = p0 := funext fun k => by
    unfold pl
    rw [e2, us_ne _ _ (by omega)]
    by_cases y : k < 13
    · rw [if_pos y, hz.1 k y]; rfl
    · rw [if_neg y]; rfl
  refine ⟨ha.1, hm.1, fun v hv => ?_⟩
  have hv' : v.toInt = (da : Int) - 1 - e := by
    rw [hv, sa2.1, sm2.1, tp_s, isub (by rw [tm1 (by omega), tI (by omega)]; omega) (by rw [tm1 (by omega), tI (by omega)]; omega), tm1 (by omega), tI (by omega)]
  unfold wp_X3_findQuotient_23
  refine ⟨fun μ I' L' A' x => μ ≤ da - e ∧ (x.toInt = (μ : Int) - 1 ∨ (μ = 0 ∧ x.toInt < 0)) ∧ cg p (pl L a) (pa (pm (pl L' out) (pl L m)) (pl L' (o + 2))) ∧ rsd p (pl L' (o + 2)) ∧ dl (pl L' (o + 2)) (μ + e) ∧ rsd p (pl L' out) ∧ dl (pl L' out) (da - e) ∧ (∀ j, j < μ → pl L' out j = 0) ∧ ChR (fun y => y = out ∨ y = o + 2) I I' L L' ∧ A' = A2, da - e, ⟨Nat.le_refl _, by omega, ?_, by rw [hpa]; exact ra, by rw [hpa]; exact dl_mono sa.dl (by omega), by rw [hpo]; exact fun k => ⟨Int.le_refl 0, by show (0 : Int) < p; omega⟩, by rw [hpo]; exact fun _ _ => rfl, fun j _ => by rw [hpo]; rfl, hc2, rfl⟩, ?_⟩
  · rw [hpo, hpa, pm_0l, pa_comm, pa_0]; exact cg.refl _ _
  rintro μ C hC I' L' A' x ⟨hμ, hx, hcg, rf, df, ro, do', oz, hc, rfl⟩
  have sm' := sm.ch hc nm
  have hpm : pl L' m = pl L m := pl_keep (hc.l nm)
  refine ⟨fun z => ⟨h.1, _, s_settle h, ?_⟩, fun z => ?_⟩
  · rw [ilt, li0] at z
    rintro I3 L3 A3 ⟨rfl, rfl, rfl⟩
    exact ⟨⟨_, dl_mono df (by omega), hcg⟩, ro, do', ⟨_, rn_ln (u2_self _ _ _ _)⟩, hc.trans ((ch_u2 _).mono (fun y hy => Or.inl hy)), rfl⟩
  · rw [ilt, li0] at z
    obtain ⟨k, rfl⟩ : ∃ k, μ = k + 1 := ⟨μ - 1, by omega⟩
    have hxk : x.toInt = (k : Int) := by omega
    have hxe : x = nI k := eqn hxk
    subst hxe
    have hs : (nI k + I' m 1).toInt = ((k + e : Nat) : Int) := by
      rw [sm'.1, tp_s]; exact iadd_n (tI (by omega)) (tI (by omega)) (by omega)
    have hok2 : aok (cxS K) (o + 2 + 1) 1 (nI k + I' m 1) := ho.2.1.ok' hs (by omega)
    refine ⟨h.1, ho.1, ho.2.1.1, hm.1, hok2, h.ok (by omega), fun L13 e13 => ?_⟩
    rw [ix_of hs, ixn (by omega)] at e13
    have hy13 : ∀ y, y ≠ out + 1 → L13 y = L' y := fun y hy => by rw [e13, u2_off _ _ hy]
    have p2 : pl L13 (o + 2) = pl L' (o + 2) := pl_keep (hy13 _ (by omega))
    have pm2 : pl L13 m = pl L m := (pl_keep (hy13 _ (by omega))).trans hpm
    have hmo : mdl L13 o = p := by
      show (L13 o 0).toInt = p
      rw [hy13 o ho1, hc.2 o (fun r hr => by rcases hr with rfl | rfl <;> omega)]; exact hp
    refine ⟨_, s_subtractShifted (e := e) (s := k) (p := p) ho.1 ho.2.1 hm (Ne.symm h5) hmo hp1 hp2 (by rw [p2]; exact rf) (by rw [pm2]; exact rm) ⟨sm'.1, sm'.2.1, fun j h6 h7 => by rw [hy13 _ (by omega)]; exact sm'.2.2 j h6 h7⟩ (by omega), ?_⟩
    rintro I4 L4 A4 ⟨hv4, rfl, hc4, rfl⟩ v5 hv5
    rw [p2, pm2] at hv4
    have hpout : ∀ j, pl L4 out j = if j = k then pl L' (o + 2) (k + e) else pl L' out j := fun j => by
      have e3 : pl L4 out = pl L13 out := pl_keep (hc4.l (by omega))
      rw [e3]
      by_cases y : j = k
      · rw [if_pos y, y, pl_lt (by omega), e13, u2_self, pl_lt (by omega)]
      · rw [if_neg y]
        unfold pl
        rw [e13, u2_ne _ _ (fun w => y w.2)]
    have hpo' : pl L4 out = pa (pl L' out) (mono k (pl L' (o + 2) (k + e))) := funext fun j => by
      rw [hpout j]
      show _ = pl L' out j + (if j = k then pl L' (o + 2) (k + e) else 0)
      by_cases y : j = k
      · rw [if_pos y, if_pos y, y, oz k (by omega)]; omega
      · rw [if_neg y, if_neg y]; omega
    have rk := rf (k + e)
    refine hC k _ _ _ _ (by omega) ⟨by omega, Or.inl ?_, fun j => ?_, fun j => ?_, fun j hj => ?_, fun j => ?_, fun j hj => ?_, fun j hj => ?_, ?_, rfl⟩
    · rw [hv5, iadd (by rw [tI (by omega), lim1]; omega) (by rw [tI (by omega), lim1]; omega), tI (by omega), lim1]; omega
    · have h8 := hcg j
      show (p : Int) ∣ pl L a j - (pm (pl L4 out) (pl L m) j + pl L4 (o + 2) j)
      rw [hpo', pm_add_l, pm_mono, hv4 j]
      have h9 : (p : Int) ∣ pl L' (o + 2) j - ((if k ≤ j then pl L' (o + 2) (k + e) * pl L m (j - k) else 0) + (if k ≤ j ∧ j ≤ k + e then (pl L' (o + 2) j + (p - pl L' (o + 2) (k + e)) * pl L m (j - k)) % p else pl L' (o + 2) j)) := by
        by_cases y : k ≤ j
        · rw [if_pos y]
          by_cases y2 : j ≤ k + e
          · rw [if_pos ⟨y, y2⟩]
            have h10 := mod_dvd (pl L' (o + 2) j + (p - pl L' (o + 2) (k + e)) * pl L m (j - k)) p
            have h11 : (p : Int) ∣ p * pl L m (j - k) := ⟨_, rfl⟩
            have h12 := Int.dvd_neg.mpr (Int.dvd_add h10 h11)
            generalize (pl L' (o + 2) j + (p - pl L' (o + 2) (k + e)) * pl L m (j - k)) % p = w at h12 ⊢
            rw [Int.sub_mul] at h12
            generalize pl L' (o + 2) (k + e) * pl L m (j - k) = w1 at h12 ⊢
            generalize (p : Int) * pl L m (j - k) = w2 at h12
            rwa [show -(w - (pl L' (o + 2) j + (w2 - w1)) + w2) = pl L' (o + 2) j - (w1 + w) by omega] at h12
          · rw [if_neg (fun t => y2 t.2), sm.dl (j - k) (by omega)]
            simp
        · rw [if_neg y, if_neg (fun t => y t.1)]
          simp
      have h8' : (p : Int) ∣ pl L a j - (pm (pl L' out) (pl L m) j + pl L' (o + 2) j) := h8
      have h10 := Int.dvd_add h8' h9
      generalize (if k ≤ j then pl L' (o + 2) (k + e) * pl L m (j - k) else 0) = w1 at h10 ⊢
      generalize (if k ≤ j ∧ j ≤ k + e then (pl L' (o + 2) j + (p - pl L' (o + 2) (k + e)) * pl L m (j - k)) % p else pl L' (o + 2) j) = w2 at h10 ⊢
      rwa [show pl L a j - (pm (pl L' out) (pl L m) j + pl L' (o + 2) j) + (pl L' (o + 2) j - (w1 + w2)) = pl L a j - (pm (pl L' out) (pl L m) j + w1 + w2) by omega] at h10
    · rw [hv4 j]
      split
      · exact ⟨Int.emod_nonneg _ (by omega), Int.emod_lt_of_pos _ (by omega)⟩
      · exact rf j
    · rw [hv4 j]
      by_cases y : j = k + e
      · rw [if_pos (by omega), y, show k + e - k = e by omega, hl, Int.mul_one, show pl L' (o + 2) (k + e) + (p - pl L' (o + 2) (k + e)) = (p : Int) by omega, Int.emod_self]
      · rw [if_neg (by omega)]
        exact df j (by omega)
    · rw [hpout j]
      split
      · exact rk
      · exact ro j
    · rw [hpout j, if_neg (by omega)]
      exact do' j hj
    · rw [hpout j, if_neg (by omega)]
      exact oz j (by omega)
    · refine hc.trans (ChR.trans (I' := I4) (L' := L13) ⟨fun _ _ => rfl, fun y hy => hy13 y (hy out (Or.inl rfl))⟩ (hc4.mono (fun y hy => Or.inr hy)))
/-- powers, by bits from the highest -/
theorem bit_step {p : Int} {f : PP} {B t t' t2 : PF} {q b : Nat} (hz : ZP p f (letI := pfR; B ^ q - t)) (ht : ZP p f (letI := pfR; t * t - t')) (hs : (b = 1 ∧ ZP p f (letI := pfR; t' * B - t2)) ∨ (b = 0 ∧ t2 = t')) : ZP p f (letI := pfR; B ^ (2 * q + b) - t2) := by
  have hi : Idl pfR (ZP p f) := idl_p
  let gg := pfR
  have h1 := hi.mul2 hz hz
  have e2 : B ^ (2 * q) = B ^ q * B ^ q := by rw [Nat.two_mul, Lean.Grind.Semiring.pow_add]
  rcases hs with ⟨rfl, hs⟩ | ⟨rfl, rfl⟩
  · rw [Lean.Grind.Semiring.pow_succ, e2]
    exact hi.trans (hi.mul2 (hi.trans h1 ht) (hi.refl B)) hs
  · rw [Nat.add_zero, e2]
    exact hi.trans h1 ht
theorem cgf_of {p : Int} {f a r q : PP} (hq : Pf q) (h : cg p a (pa (pm q f) r)) : cgf p f a r := ⟨q, hq, fun k => by
  have := h k
  show p ∣ a k + -1 * r k - pm q f k
  rw [show a k + -1 * r k - pm q f k = a k - (pm q f k + r k) by omega]; exact this⟩
theorem pl_pf (L : TL) (r : Nat) : Pf (pl L r) := ⟨13, fun k hk => if_neg (by omega)⟩
def plF (L : TL) (r : Nat) : PF := ⟨pl L r, pl_pf L r⟩
theorem rix_k {I' : TI} {L' : TL} {r : Nat} {c : Int64} (h : RowIs I' L' r (fun k => if k = 0 then c else 0)) : pl L' r = pk0 c.toInt := funext fun k => by
  by_cases y : k < 13
  · rw [pl_lt y, h.1 k y]
    cases k with
    | zero => rfl
    | succ k =>
      show (if k + 1 = 0 then c else 0).toInt = 0
      rw [if_neg (by omega)]; rfl
  · rw [pl, if_neg y]
    cases k with
    | zero => omega
    | succ k => rfl
set_option maxHeartbeats 1000000 in
/-- raise(out, base, exponent, m) -/
theorem s_raise {o out b m db e p n : Nat} {j : Int64} (ho : isX3 K o) (h : isRow K out) (hb : isRow K b) (hm : isRow K m) (h1 : out ≠ b) (h2 : out ≠ m) (hp : mdl L o = p) (hp1 : 1 < p) (hp2 : p < 67108864) (rb : rsd p (pl L b)) (rm : rsd p (pl L m)) (sb : St I L b db) (sm : St I L m (e + 1)) (hl : pl L m e = 1) (hdb : db ≤ 7) (he : e ≤ 7) (he0 : 0 < e) (hj : j.toInt = n) (hn : n < 2147483648) : ConV K yX3_raise wsX3_raise 2 68 I L A [.ref o, .ref out, .ref b, .long j, .ref m] (fun I' L' A' => cgf p (pl L m) (pw (pl L b) n) (pl L' out) ∧ rsd p (pl L' out) ∧ dl (pl L' out) e ∧ (∃ d', RowN I' L' out d') ∧ ChR (fun y => y = out ∨ y = o) I I' L L' ∧ A' = A) := by
  have hbo := x3_nr ho.1 hb
  have hmo := x3_nr ho.1 hm
  apply w_X3_raise
  unfold wp_X3_raise
  refine ⟨h.1, _, s_becomeNumber h, ?_⟩
  rintro I1 L1 A1 ⟨hz, hc1, rfl⟩
  have e1 : pl L1 out = pk0 1 := rix_k hz
  unfold wp_X3_raise_9
  refine ⟨fun μ I' L' A' x => μ ≤ 31 ∧ x.toInt = (μ : Int) - 1 ∧ cgf p (pl L m) (pw (pl L b) (n / 2 ^ μ)) (pl L' out) ∧ rsd p (pl L' out) ∧ dl (pl L' out) e ∧ (∃ d', RowN I' L' out d') ∧ ChR (fun y => y = out ∨ y = o) I I' L L' ∧ A' = A1, 31, ⟨Nat.le_refl _, by decide, ?_, ?_, ?_, ⟨_, hz.rn⟩, hc1.mono (fun y hy => Or.inl hy), rfl⟩, ?_⟩
  · rw [Nat.div_eq_of_lt (by omega), e1]; exact cgf.refl _ _ _
  · rw [e1]; intro k; cases k with
    | zero => exact ⟨by decide, by show (1 : Int) < p; omega⟩
    | succ k => exact ⟨Int.le_refl 0, by show (0 : Int) < p; omega⟩
  · rw [e1]; intro k hk; cases k with
    | zero => omega
    | succ k => rfl
  rintro μ C hC I' L' A' x ⟨hμ, hx, hcg, ro, do', ⟨d', no⟩, hc, rfl⟩
  refine ⟨fun z => ?_, fun z => ?_⟩
  · rw [ilt, li0] at z
    have : μ = 0 := by omega
    subst this
    rw [Nat.pow_zero, Nat.div_one] at hcg
    exact ⟨hcg, ro, do', ⟨d', no⟩, hc, rfl⟩
  · rw [ilt, li0] at z
    obtain ⟨k, rfl⟩ : ∃ k, μ = k + 1 := ⟨μ - 1, by omega⟩
    have hxe : x = nI k := eqn (by omega)
    subst hxe
    have nb : ¬ (b = out ∨ b = o) := by omega
    have nm : ¬ (m = out ∨ m = o) := by omega
    have keep : ∀ {I2 : TI} {L2 : TL}, ChR (fun y => y = out ∨ y = o) I I2 L L2 → mdl L2 o = p ∧ pl L2 b = pl L b ∧ pl L2 m = pl L m ∧ St I2 L2 b db ∧ St I2 L2 m (e + 1) := fun hc => ⟨by
      show (_ : Int64).toInt = _
      rw [hc.2 o (fun r hr => by have := x3_ne ho.1 h; rcases hr with rfl | rfl <;> omega)]; exact hp, pl_keep (hc.l nb), pl_keep (hc.l nm), sb.ch hc nb, sm.ch hc nm⟩
    obtain ⟨k1, k2, k3, k4, k5⟩ := keep hc
    refine ⟨ho.1, _, s_multiplyModulo (p := p) (e := e) ho h h h hm k1 hp1 hp2 ro ro (by rw [k3]; exact rm) no.1 no.1 k5 (by rw [k3]; exact hl) (by have := no.le do'; omega) (by have := no.le do'; omega), ?_⟩
    rintro I2 L2 A2 ⟨⟨q, hq, hcg2⟩, r2, d2, ⟨d2', n2⟩, hc2, rfl⟩
    rw [k3] at hcg2
    have hc2 := hc.trans hc2
    have hsq := cgf_of hq hcg2
    have hdm : 2 ^ (k + 1) = 2 * 2 ^ k := by rw [Nat.pow_succ]; omega
    have hdv : n / 2 ^ k = 2 * (n / 2 ^ (k + 1)) + n / 2 ^ k % 2 := by
      rw [hdm, Nat.mul_comm 2 (2 ^ k), ← Nat.div_div_eq_div_mul]; omega
    refine ⟨fun w => ?_, fun w v hv => ?_⟩
    · have w' := (jbit hj (show k < 31 by omega)).mp w
      obtain ⟨k1, k2, k3, k4, k5⟩ := keep hc2
      refine ⟨_, s_multiplyModulo (p := p) (e := e) ho h h hb hm k1 hp1 hp2 r2 (by rw [k2]; exact rb) (by rw [k3]; exact rm) n2.1 k4 k5 (by rw [k3]; exact hl) (by have := n2.le d2; omega) hdb, ?_⟩
      rintro I3 L3 A3 ⟨⟨q3, hq3, hcg3⟩, r3, d3, n3, hc3, rfl⟩ v hv
      rw [k2, k3] at hcg3
      have hmu := cgf_of hq3 hcg3
      refine hC k _ _ _ _ (by omega) ⟨by omega, ?_, ?_, r3, d3, n3, hc2.trans hc3, rfl⟩
      · rw [hv, iadd (by rw [tI (by omega), lim1]; omega) (by rw [tI (by omega), lim1]; omega), tI (by omega), lim1]; omega
      · rw [hdv]
        exact bit_step (p := p) (f := pl L m) (B := plF L b) (t := plF L' out) (t' := plF L2 out) (t2 := plF L3 out) hcg hsq (Or.inl ⟨w', hmu⟩)
    · have w' : n / 2 ^ k % 2 = 0 := by
        rcases Nat.mod_two_eq_zero_or_one (n / 2 ^ k) with q | q
        · exact q
        · exact absurd ((jbit hj (show k < 31 by omega)).mpr q) w
      refine hC k _ _ _ _ (by omega) ⟨by omega, ?_, ?_, r2, d2, ⟨d2', n2⟩, hc2, rfl⟩
      · rw [hv, iadd (by rw [tI (by omega), lim1]; omega) (by rw [tI (by omega), lim1]; omega), tI (by omega), lim1]; omega
      · rw [hdv]
        exact bit_step (p := p) (f := pl L m) (B := plF L b) (t := plF L' out) (t' := plF L2 out) (t2 := plF L2 out) hcg hsq (Or.inr ⟨w', rfl⟩)
set_option maxHeartbeats 1000000 in
/-- compose(out, outer, inner, m): Horner -/
theorem s_compose {o out u b m du db e p : Nat} (ho : isX3 K o) (h : isRow K out) (hu : isRow K u) (hb : isRow K b) (hm : isRow K m) (h0 : out ≠ u) (h1 : out ≠ b) (h2 : out ≠ m) (hp : mdl L o = p) (hp1 : 1 < p) (hp2 : p < 67108864) (ru : rsd p (pl L u)) (rb : rsd p (pl L b)) (rm : rsd p (pl L m)) (su : St I L u du) (sb : St I L b db) (sm : St I L m (e + 1)) (hl : pl L m e = 1) (hdb : db ≤ 7) (he : e ≤ 7) (he0 : 0 < e) : ConV K yX3_compose wsX3_compose 2 68 I L A [.ref o, .ref out, .ref u, .ref b, .ref m] (fun I' L' A' => ZP p (pl L m) (letI := pfR; evG pfR du (fun k => kP (pl L u k)) (plF L b) - plF L' out) ∧ rsd p (pl L' out) ∧ dl (pl L' out) e ∧ (∃ d', RowN I' L' out d') ∧ ChR (fun y => y = out ∨ y = o) I I' L L' ∧ A' = A) := by
  have hbo := x3_nr ho.1 hb
  have huo := x3_nr ho.1 hu
  have hmo := x3_nr ho.1 hm
  have hdu := su.2.1
  have hid : Idl pfR (ZP p (pl L m)) := idl_p
  apply w_X3_compose
  unfold wp_X3_compose
  refine ⟨h.1, _, s_clear h, ?_⟩
  rintro I1 L1 A1 ⟨hz, hc1, rfl⟩
  have e1 : pl L1 out = p0 := funext fun k => by
    unfold pl
    by_cases y : k < 13
    · rw [if_pos y, hz.1 k y]; rfl
    · rw [if_neg y]; rfl
  have nu : ¬ (u = out ∨ u = o) := by omega
  have nb : ¬ (b = out ∨ b = o) := by omega
  have nm : ¬ (m = out ∨ m = o) := by omega
  have hc1 := hc1.mono (T := fun y => y = out ∨ y = o) (fun y hy => Or.inl hy)
  refine ⟨hu.1, fun v hv => ?_⟩
  have hv' : v.toInt = (du : Int) - 1 := by rw [hv, (su.ch hc1 nu).1, tm1 (by omega)]
  unfold wp_X3_compose_10
  refine ⟨fun μ I' L' A' x => μ ≤ du ∧ x.toInt = (μ : Int) - 1 ∧ ZP p (pl L m) (letI := pfR; evG pfR (du - μ) (fun k => kP (pl L u (μ + k))) (plF L b) - plF L' out) ∧ rsd p (pl L' out) ∧ dl (pl L' out) e ∧ (∃ d', RowN I' L' out d') ∧ ChR (fun y => y = out ∨ y = o) I I' L L' ∧ A' = A1, du, ⟨Nat.le_refl _, hv', ?_, ?_, ?_, ⟨_, hz.rn⟩, hc1, rfl⟩, ?_⟩
  · rw [Nat.sub_self]
    refine zc_zp (fun k => ?_)
    show (p : Int) ∣ pk0 ((0 : Nat) : Int) k + -1 * pl L1 out k
    rw [e1]
    cases k <;> exact Int.dvd_zero _
  · rw [e1]; exact fun k => ⟨Int.le_refl 0, by show (0 : Int) < p; omega⟩
  · rw [e1]; exact fun _ _ => rfl
  rintro μ C hC I' L' A' x ⟨hμ, hx, hcg, ro, do', ⟨d', no⟩, hc, rfl⟩
  refine ⟨fun z => ?_, fun z => ?_⟩
  · rw [ilt, li0] at z
    have : μ = 0 := by omega
    subst this
    have e2 : (fun k => kP (pl L u (0 + k))) = (fun k => kP (pl L u k)) := funext fun k => by rw [Nat.zero_add]
    rw [e2, Nat.sub_zero] at hcg
    exact ⟨hcg, ro, do', ⟨d', no⟩, hc, rfl⟩
  · rw [ilt, li0] at z
    obtain ⟨k, rfl⟩ : ∃ k, μ = k + 1 := ⟨μ - 1, by omega⟩
    have hxe : x = nI k := eqn (by omega)
    subst hxe
    have keep : ∀ {I2 : TI} {L2 : TL}, ChR (fun y => y = out ∨ y = o) I I2 L L2 → mdl L2 o = p := fun hc => by
      show (_ : Int64).toInt = _
      rw [hc.2 o (fun r hr => by have := x3_ne ho.1 h; rcases hr with rfl | rfl <;> omega)]; exact hp
    have k2 : pl L' b = pl L b := pl_keep (hc.l nb)
    have k3 : pl L' m = pl L m := pl_keep (hc.l nm)
    refine ⟨ho.1, _, s_multiplyModulo (p := p) (e := e) ho h h hb hm (keep hc) hp1 hp2 ro (by rw [k2]; exact rb) (by rw [k3]; exact rm) no.1 (sb.ch hc nb) (sm.ch hc nm) (by rw [k3]; exact hl) (by have := no.le do'; omega) hdb, ?_⟩
    rintro I2 L2 A2 ⟨⟨q, hq, hcg2⟩, r2, d2, ⟨d2', n2⟩, hc2, rfl⟩
    rw [k2, k3] at hcg2
    have hmul := cgf_of hq hcg2
    have hc2 := hc.trans hc2
    have hlu : L2 (u + 1) = L (u + 1) := hc2.l nu
    have hui := ru k
    rw [pl_lt (by omega)] at hui
    refine ⟨hu.1, hu.ok (by omega), _, s_addAt (k := 0) (p := p) ho.1 h (keep hc2) hp1 hp2 r2 (by omega) (by rw [hlu, ixn (by omega)]; omega), ?_⟩
    rintro I3 L3 A3 ⟨hv3, r3, n3, hc3, rfl⟩ v4 hv4
    rw [hlu, ixn (by omega), ← pl_lt (r := u) (by omega)] at hv3
    refine hC k _ _ _ _ (by omega) ⟨by omega, ?_, ?_, r3, fun i hi => ?_, n3, hc2.trans (hc3.mono (fun y hy => Or.inl hy)), rfl⟩
    · rw [hv4, iadd (by rw [tI (by omega), lim1]; omega) (by rw [tI (by omega), lim1]; omega), tI (by omega), lim1]; omega
    · rw [show du - k = (du - (k + 1)) + 1 by omega]
      have e3 : evG pfR (du - (k + 1) + 1) (fun j => kP (pl L u (k + j))) (plF L b) = (letI := pfR; kP (pl L u k) + plF L b * evG pfR (du - (k + 1)) (fun j => kP (pl L u (k + 1 + j))) (plF L b)) := by
        have e4 : (fun j => kP (pl L u (k + (j + 1)))) = (fun j => kP (pl L u (k + 1 + j))) := funext fun j => by rw [show k + (j + 1) = k + 1 + j by omega]
        show (letI := pfR; kP (pl L u (k + 0)) + plF L b * evG pfR (du - (k + 1)) (fun j => kP (pl L u (k + (j + 1)))) (plF L b)) = _
        rw [e4, Nat.add_zero]
      rw [e3]
      have h5 : ZP p (pl L m) (letI := pfR; plF L' out * plF L b - plF L2 out) := hmul
      have h6 : ZP p (pl L m) (letI := pfR; (kP (pl L u k) + plF L2 out) - plF L3 out) := by
        refine zc_zp (fun i => ?_)
        show (p : Int) ∣ pk0 (pl L u k) i + pl L2 out i + -1 * pl L3 out i
        rw [hv3 i]
        cases i with
        | zero =>
          rw [if_pos rfl]
          show (p : Int) ∣ pl L u k + pl L2 out 0 + -1 * ((pl L2 out 0 + pl L u k) % p)
          have := Int.dvd_neg.mpr (mod_dvd (pl L2 out 0 + pl L u k) p)
          generalize (pl L2 out 0 + pl L u k) % (p : Int) = w at this ⊢
          rwa [show -(w - (pl L2 out 0 + pl L u k)) = pl L u k + pl L2 out 0 + -1 * w by omega] at this
        | succ i =>
          rw [if_neg (by omega)]
          show (p : Int) ∣ 0 + pl L2 out (i + 1) + -1 * pl L2 out (i + 1)
          rw [show 0 + pl L2 out (i + 1) + -1 * pl L2 out (i + 1) = 0 by omega]; exact Int.dvd_zero _
      refine hid.trans ?_ h6
      refine hid.add2 (hid.refl _) ?_
      refine hid.trans (hid.mul2 (hid.refl _) hcg) ?_
      refine hid.of h5 ?_
      letI := pfR
      grind
    · rw [hv3 i, if_neg (by omega)]
      exact d2 i hi
end
