/-! THE REFERENCE: takeContent, divide -/
section
variable {K : Cx} {I : TI} {L : TL} {A : TA}
theorem lnP_dl {f : PP} {n : Nat} (h : dl f n) : dl f (lnP f n) := by
  by_cases q : f = p0
  · rw [q]; exact fun _ _ => rfl
  · obtain ⟨d, hd1, hd2, hd3⟩ := dg_ex f n h q
    rw [lnP_of hd3 (fun x hx => by rw [show x = d by omega]; exact hd2) (by omega)]
    exact hd3
theorem lnP_ne {f : PP} {n e : Nat} (h : dl f n) (he : lnP f n = e + 1) : dgI f e := by
  have hq : f ≠ p0 := fun z => by
    rw [z] at he
    have : ∀ n, lnP p0 n = 0 := fun n => by
      induction n with
      | zero => rfl
      | succ n ih => rw [lnP, if_pos (show p0 n = 0 from rfl)]; exact ih
    rw [this] at he; cases he
  obtain ⟨d, hd1, hd2, hd3⟩ := dg_ex f n h hq
  rw [lnP_of hd3 (fun x hx => by rw [show x = d by omega]; exact hd2) (by omega)] at he
  have : d = e := by omega
  rw [← this]; exact ⟨hd2, hd3⟩
/-- the content as the reference takes it -/
def cnt (f : PP) : Int := sgd f (lnP f 8)
set_option maxHeartbeats 1000000 in
theorem m_takeContent {m r : Nat} (hm : isX7 K m) (hr : r < 30) (hb : ∀ k, (rp L m r k).natAbs < 4611686018427387904) : ConL K yX7_takeContent wsX7_takeContent 1 29 I L A [.ref m, .int (nI r)] (fun v I' L' A' => v.toInt = cnt (rp L m r) ∧ (∀ k, rp L m r k = (if cnt (rp L m r) = 0 then 1 else cnt (rp L m r)) * rp L' m r k) ∧ RU m (· = r) L L' ∧ I' = I ∧ A' = A) := by
  obtain ⟨f, hf⟩ : ∃ f : PP, f = rp L m r := ⟨_, rfl⟩
  rw [← hf] at hb ⊢
  have hfd : dl f 8 := by rw [hf]; exact rp_dl L m r
  have hld := lnP_dl hfd
  have hle := lnP_le f 8
  have hg8 : gd f 8 = gd f (lnP f 8) := gd_all f hld 8 hle
  have hgb : ∀ i, gd f i < 4611686018427387904 := fun i => gd_lt f _ (by decide) i (fun k _ => hb k)
  -- the division by what was found
  have div : ∀ c : Int64, c.toInt = cnt f → wp_X7_takeContent_74 K m (nI r) I L A c 0 (fun v I' L' A' => v.toInt = cnt f ∧ (∀ k, f k = (if cnt f = 0 then 1 else cnt f) * rp L' m r k) ∧ RU m (· = r) L L' ∧ I' = I ∧ A' = A) := by
    intro c hc
    unfold wp_X7_takeContent_74
    refine ⟨fun μ I' L' A' x y => ∃ i, i + μ = 8 ∧ c = x ∧ y = nI i ∧ (∀ k, k < i → rp L' m r k = (f k).tdiv (cnt f)) ∧ (∀ k, i ≤ k → k < 8 → L' (m + 1) (8 * r + k) = L (m + 1) (8 * r + k)) ∧ RU m (· = r) L L' ∧ (cnt f = 0 → L' = L) ∧ I' = I ∧ A' = A, 8, ⟨0, rfl, rfl, rfl, fun k hk => absurd hk (Nat.not_lt_zero _), fun _ _ _ => rfl, RU.refl _ _ _, fun _ => rfl, rfl, rfl⟩, ?_⟩
    rintro μ C hC I' L' A' _ _ ⟨i, hi, rfl, rfl, h1, h2, h3, h4, rfl, rfl⟩
    have hd : ∀ k, cnt f ∣ f k := fun k => sgd_dvd hld k
    have hzero : cnt f = 0 → ∀ k, f k = rp L m r k := fun _ k => by rw [hf]
    refine ⟨fun z => ?_, fun z => ⟨fun z2 => ?_, fun z2 => ?_⟩⟩
    · rw [ile, li8, tI (by omega)] at z
      refine ⟨hc, fun k => ?_, h3, rfl, rfl⟩
      by_cases w : cnt f = 0
      · rw [if_pos w, h4 w, Int.one_mul, hf]
      · rw [if_neg w]
        by_cases y : k < 8
        · rw [h1 k (by omega)]
          exact (Int.mul_tdiv_cancel' (hd k)).symm
        · rw [hfd k (by omega), rp_dl L' m r k (by omega)]; simp
    · rw [j0, hc] at z2
      refine ⟨hc, fun k => ?_, h3, rfl, rfl⟩
      rw [if_pos z2, h4 z2, Int.one_mul, hf]
    · rw [ile, li8, tI (by omega)] at z
      have hix := rix hr (show i < 8 by omega) (x := nI r) rfl (tI (k := i) (by omega))
      have hok := rok hm hr (show i < 8 by omega) hix
      refine ⟨hm.1, hok, z2, hok, fun L5 e5 v6 e6 => ?_⟩
      rw [ix_of hix, h2 i (Nat.le_refl i) (by omega)] at e5
      refine hC (μ - 1) _ _ _ _ _ (by omega) ⟨i + 1, by omega, rfl, by rw [e6, sI], fun k hk => ?_, fun k hk1 hk2 => ?_, h3.trans (by rw [e5]; exact u2_ru (by omega)), fun w => absurd (j0.mpr (hc.trans w)) z2, rfl, rfl⟩
      · rw [rp_lt (by omega), e5]
        by_cases y : k = i
        · subst y
          have b := hb k
          rw [hf, rp_lt (by omega)] at b
          rw [u2_self, jdiv (by omega), hc, hf, rp_lt (by omega)]
        · rw [u2_ne _ _ (fun t => y (by omega)), ← rp_lt (by omega)]
          exact h1 k (by omega)
      · rw [e5, u2_ne _ _ (fun t => by omega)]
        exact h2 k (by omega) hk2
  apply w_X7_takeContent
  unfold wp_X7_takeContent wp_X7_takeContent_5
  refine ⟨fun μ I' L' A' x y => ∃ i, i + μ = 8 ∧ y = nI i ∧ x.toInt = (gd f i : Int) ∧ I' = I ∧ L' = L ∧ A' = A, 8, ⟨0, rfl, rfl, rfl, rfl, rfl, rfl⟩, ?_⟩
  rintro μ C hC I' L' A' x _ ⟨i, hi, rfl, hx, rfl, rfl, rfl⟩
  have hgi := hgb i
  refine ⟨fun z => ⟨hm.1, _, m_degreeOf hm hr, ?_⟩, fun z => ?_⟩
  · rw [ile, li8, tI (by omega)] at z
    have hi8 : i = 8 := by omega
    subst hi8
    rintro v I2 L2 A2 ⟨rfl, rfl, rfl, rfl⟩
    rw [← hf]
    refine ⟨fun q => div x ?_, fun q => ?_⟩
    · rw [tp_lt0 (by omega)] at q
      rw [hx, hg8, cnt, sgd, if_neg (fun t => t.2 q)]
    · rw [tp_lt0 (by omega)] at q
      obtain ⟨e, he⟩ : ∃ e, lnP f 8 = e + 1 := ⟨lnP f 8 - 1, by omega⟩
      rw [he, tp_s]
      have hix := rix hr (show e < 8 by omega) (x := nI r) rfl (tI (k := e) (by omega))
      have hv : (L2 (m + 1) (ix (8 * nI r + nI e))).toInt = f e := by rw [ix_of hix, ← rp_lt (by omega), hf]
      refine ⟨rok hm hr (show e < 8 by omega) hix, fun q2 => div x ?_, fun q2 v15 e15 => div v15 ?_⟩
      · rw [jle, hv, show (0 : Int64).toInt = 0 from rfl] at q2
        rw [hx, hg8, cnt, sgd, he, Nat.add_sub_cancel, if_neg (fun t => by omega)]
      · rw [jle, hv, show (0 : Int64).toInt = 0 from rfl] at q2
        rw [e15, jneg (by rw [hx]; omega), hx, hg8, cnt, sgd, he, Nat.add_sub_cancel, if_pos ⟨by omega, by omega⟩]
  · rw [ile, li8, tI (by omega)] at z
    have hix := rix hr (show i < 8 by omega) (x := nI r) rfl (tI (k := i) (by omega))
    have hv : (L' (m + 1) (ix (8 * nI r + nI i))).toInt = f i := by rw [ix_of hix, ← rp_lt (by omega), hf]
    have hbi := hb i
    refine ⟨hm.1, rok hm hr (show i < 8 by omega) hix, _, m_gcd (by rw [hx]; omega) (by rw [hv]; omega), ?_⟩
    rintro v I2 L2 A2 ⟨hg, rfl, rfl, rfl⟩ v24 e24
    refine hC (μ - 1) _ _ _ _ _ (by omega) ⟨i + 1, by omega, by rw [e24, sI], ?_, rfl, rfl, rfl⟩
    rw [hg, hx, hv, Int.natAbs_natCast, gd]
/-- a slot by a slot -/
theorem pow301 : 300 * (1 + 300) ^ 6 < 9223372036854775808 := by decide
set_option maxHeartbeats 1000000 in
theorem m_divide {m : Nat} {t a b : Int32} {P : Nat → PP} (hm : isX7 K m) (hs : RSlots m L P) : ConI K yX7_divide wsX7_divide 3 74 I L A [.ref m, .int t, .int a, .int b] (refP m (okS t ∧ okS a ∧ okS b) (fun v P' => divA P (ix t) (ix a) (ix b) v P') I L A) := by
  have no : ¬ (okS t ∧ okS a ∧ okS b) → wp_X7_divide_26 K m t a b I L A m (refP m (okS t ∧ okS a ∧ okS b) (fun v P' => divA P (ix t) (ix a) (ix b) v P') I L A) := by
    intro hn
    unfold wp_X7_divide_26 wp_X7_divide_27
    refine ⟨hm.1, _, m_refused hm (Or.inr rfl), ?_⟩
    rintro v I1 L1 A1 ⟨rfl, rfl, rfl, rfl⟩
    exact ⟨fun z => absurd z (by decide), fun _ => Or.inr ⟨hn, rfl, rfl, rfl⟩⟩
  apply w_X7_divide
  unfold wp_X7_divide
  refine ⟨_, m_isSlot, ?_⟩
  rintro v I1 L1 A1 ⟨h1, rfl, rfl, rfl⟩
  refine ⟨fun z => no (fun w => way0 h1 z w.1), fun z => ⟨_, m_isSlot, ?_⟩⟩
  have ht := way1 h1 z
  rintro v I1 L1 A1 ⟨h1, rfl, rfl, rfl⟩
  refine ⟨fun z => no (fun w => way0 h1 z w.2.1), fun z => ⟨_, m_isSlot, ?_⟩⟩
  have ha := way1 h1 z
  rintro v I1 L1 A1 ⟨h1, rfl, rfl, rfl⟩
  refine ⟨fun z => no (fun w => way0 h1 z w.2.2), fun z => ?_⟩
  have hb := way1 h1 z
  have hok : okS t ∧ okS a ∧ okS b := ⟨ht, ha, hb⟩
  clear no h1 z
  obtain ⟨t, ht8, rfl⟩ := okS_n ht
  obtain ⟨a, ha8, rfl⟩ := okS_n ha
  obtain ⟨b, hb8, rfl⟩ := okS_n hb
  rw [ixn (by omega), ixn (by omega), ixn (by omega)]
  unfold wp_X7_divide_27
  refine ⟨hm.1, _, m_refused hm (Or.inl rfl), ?_⟩
  rintro v I2 L2 A2 ⟨rfl, rfl, rfl, rfl⟩
  refine ⟨fun _ => ⟨hm.1, _, m_isZero hm (show b < 30 by omega), ?_⟩, fun z => absurd rfl z⟩
  rintro v I3 L3 A3 ⟨h3, rfl, rfl, rfl⟩
  rw [(hs b hb8).1] at h3
  refine ⟨fun z => ?_, fun z => Or.inl ⟨hok, ⟨P, Or.inl ⟨way1 h3 z, rfl, rfl⟩, hs⟩, u2_self _ _ _ _, fr_0 (RU.refl m (fun r => r < 9) L3), rfl⟩⟩
  have hb0 := way0 h3 z
  obtain ⟨e, he1, he2, he3⟩ := dg_ex (P b) 7 (hs b hb8).2.1 hb0
  obtain ⟨da, hda⟩ : ∃ d, d = lnP (P a) 8 := ⟨_, rfl⟩
  have hda7 : da ≤ 7 := by rw [hda, lnP_87 (hs a ha8).2.1]; exact lnP_le _ 7
  have bb : ∀ k, (P b k).natAbs ≤ 300 := fun k => by have := (hs b hb8).2.2 k; omega
  have ba : ∀ k, (P a k).natAbs ≤ 300 := fun k => by have := (hs a ha8).2.2 k; omega
  have hpw : ∀ s, s ≤ 6 → 300 * (1 + 300) ^ s < 9223372036854775808 := fun s hs6 => Nat.lt_of_le_of_lt (Nat.mul_le_mul_left 300 (Nat.pow_le_pow_right (by omega) hs6)) pow301
  have hdiv : ConI K yX7_divides wsX7_divides 2 43 (u2 I1 m 0 0) L3 A3 [.ref m, .int (nI b), .int (nI a)] (fun v I' L' A' => ((v = 1 ∧ pm (P b) (rp L' m 11) = P a) ∨ (v = 0 ∧ ∀ q, Pf q → (∀ k, (P b e * q k).natAbs < 9223372036854775808) → pm (P b) q ≠ P a)) ∧ RU m (fun r => r = 9 ∨ r = 11) L3 L' ∧ I' = u2 I1 m 0 0 ∧ A' = A3) := by
    have hye : dgI (rp L3 m b) e := by rw [(hs b hb8).1]; exact ⟨he2, he3⟩
    rw [← (hs b hb8).1, ← (hs a ha8).1]
    by_cases he0 : e = 0
    · exact m_divides (da := da) (MA := 300) (MB := 0) hm (by omega) (by omega) (by omega) (by omega) (by omega) (by omega) hye (by rw [(hs a ha8).1, hda]) (fun k => by rw [(hs a ha8).1]; exact ba k) (fun k hk => by omega) (by rw [Nat.add_zero, Nat.one_pow]; decide) (Or.inl (by rw [Nat.add_zero, Nat.one_pow]; decide))
    · exact m_divides (da := da) (MA := 300) (MB := 300) hm (by omega) (by omega) (by omega) (by omega) (by omega) (by omega) hye (by rw [(hs a ha8).1, hda]) (fun k => by rw [(hs a ha8).1]; exact ba k) (fun k hk => by rw [(hs b hb8).1]; exact bb k) (hpw _ (by omega)) (Or.inl (hpw _ (by omega)))
  refine ⟨_, hdiv, ?_⟩
  rintro v I4 L4 A4 ⟨h4, hru4, rfl, rfl⟩
  have hs4 := hs.ru hru4 (fun j hj z => by omega)
  refine ⟨fun z => ?_, fun z => ⟨_, m_copy hm (show 8 < 30 by omega) (show 11 < 30 by omega), ?_⟩⟩
  · have hno : ¬ dv (P b) (P a) := fun ⟨q, hq, eq⟩ => by
      rcases h4 with ⟨w, -⟩ | ⟨-, w⟩
      · rw [w] at z; exact absurd z (by decide)
      · refine w q hq (fun k => ?_) eq
        have h5 := (quo_ex (hs a ha8).2 hb0 ⟨7, (hs b hb8).2.1⟩ hq eq).2.2 k
        have := mul_ab (bb e) h5
        omega
    exact Or.inl ⟨hok, ⟨P, Or.inr (Or.inr ⟨hb0, hno, rfl, rfl⟩), hs4⟩, u2_self _ _ _ _, fr_0 hru4, rfl⟩
  · rintro I5 L5 A5 ⟨h8, hru5, rfl, rfl⟩
    have hs5 := hs4.ru hru5 no8
    have hq : pm (P b) (rp L4 m 11) = P a := by
      rcases h4 with ⟨-, w⟩ | ⟨w, -⟩
      · exact w
      · exact absurd w z
    refine ⟨_, m_finish hm hs5 ht8, ?_⟩
    rintro v I6 L6 A6 ⟨⟨P', hk, hS⟩, hru6, rfl, rfl⟩
    rw [h8] at hk
    have q9 : ∀ r : Nat, (r = 9 ∨ r = 11) → r < 12 := fun r hr => by omega
    have q8 : ∀ r : Nat, r = 8 → r < 12 := fun r hr => by omega
    have qt : ∀ r : Nat, r = t → r < 12 := fun r hr => by omega
    exact Or.inl ⟨hok, ⟨P', Or.inr (Or.inl ⟨hb0, _, ⟨8, rp_dl L4 m 11⟩, hq, hk⟩), hS⟩, u2_self _ _ _ _, fr_0 (((hru4.mono q9).trans (hru5.mono q8)).trans (hru6.mono qt)), rfl⟩
end
