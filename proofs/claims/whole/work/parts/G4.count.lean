/-! FACTORING: countEach -/
section
variable {K : Cx} {I : TI} {L : TL} {A : TA}
theorem irr_fac : ∀ (n : Nat) (B : PP) (d : Nat), d ≤ n → prim B → dgI B d → 0 < d → ∃ t, Irr t ∧ dv t B
  | 0, _, d, hn, _, _, h0 => by omega
  | n + 1, B, d, hn, hp, hd, h0 => by
    by_cases w : ∀ x y, Pf x → Pf y → pm x y = B → dl x 1 ∨ dl y 1
    · exact ⟨B, ⟨⟨d, h0, hd⟩, hp, w⟩, dv.refl B⟩
    · obtain ⟨x, hx⟩ := Classical.not_forall.mp w
      obtain ⟨y, hy⟩ := Classical.not_forall.mp hx
      have h1 : Pf x ∧ Pf y ∧ pm x y = B ∧ ¬ (dl x 1 ∨ dl y 1) := by
        refine ⟨Classical.byContradiction fun z => hy (fun a => absurd a z), Classical.byContradiction fun z => hy (fun _ a => absurd a z), Classical.byContradiction fun z => hy (fun _ _ a => absurd a z), fun z => hy (fun _ _ _ => z)⟩
      obtain ⟨hxp, hyp, hxy, hn1⟩ := h1
      have hx0 : x ≠ p0 := fun z => hn1 (Or.inl (by rw [z]; exact fun _ _ => rfl))
      have hy0 : y ≠ p0 := fun z => hn1 (Or.inr (by rw [z]; exact fun _ _ => rfl))
      obtain ⟨dx, hdx⟩ := hxp.dg hx0
      obtain ⟨dy, hdy⟩ := hyp.dg hy0
      have hdx0 : 0 < dx := by
        rcases Nat.eq_zero_or_pos dx with z | z
        · subst z; exact absurd (Or.inl hdx.2) hn1
        · exact z
      have hdy0 : 0 < dy := by
        rcases Nat.eq_zero_or_pos dy with z | z
        · subst z; exact absurd (Or.inr hdy.2) hn1
        · exact z
      have hsum := (hdx.mul hdy).uniq (by rw [hxy]; exact hd)
      obtain ⟨t, ht, htd⟩ := irr_fac n x dx (by omega) (prim_pm (by rw [hxy]; exact hp)).1 hdx hdx0
      exact ⟨t, ht, htd.trans ⟨y, hyp, hxy⟩⟩
theorem pos_irr {t : PP} (ht : Irr t) : ∃ t', Irr t' ∧ posL t' ∧ ∀ g, dv t g → dv t' g := by
  obtain ⟨d, hd0, hd⟩ := ht.1
  rcases Int.lt_or_le 0 (t d) with w | w
  · exact ⟨t, ht, ⟨d, hd, w⟩, fun _ h => h⟩
  · have hn : t d < 0 := by have := hd.1; omega
    have hcc : ∀ f : PP, pc (-1) (pc (-1) f) = f := fun f => by rw [pc_pc]; funext k; show (-1 * -1) * f k = f k; omega
    refine ⟨pc (-1) t, ⟨⟨d, hd0, ⟨by show -1 * _ ≠ 0; omega, fun k hk => by show -1 * _ = 0; rw [hd.2 k hk]; rfl⟩⟩, fun l hl hal => ht.2.1 l hl (fun k => ?_), fun x y hx hy hxy => ?_⟩, ⟨d, ⟨by show -1 * _ ≠ 0; omega, fun k hk => by show -1 * _ = 0; rw [hd.2 k hk]; rfl⟩, by show 0 < -1 * _; omega⟩, fun g ⟨q, hq, e⟩ => ⟨pc (-1) q, hq.c _, ?_⟩⟩
    · have h1 : l ∣ -1 * t k := hal k
      rw [show -1 * t k = -(t k) by omega] at h1
      exact Int.dvd_neg.mp h1
    · have h1 : pm (pc (-1) x) y = t := by
        have : pm (pc (-1) x) y = pc (-1) (pm x y) := funext fun k => pm_c_l _ _ k _
        rw [this, hxy, hcc]
      rcases ht.2.2 _ _ (hx.c _) hy h1 with z | z
      · refine Or.inl (fun k hk => ?_)
        have : -1 * x k = 0 := z k hk
        omega
      · exact Or.inr z
    · funext k
      rw [pm_c_l, pm_c_r, e]; omega
/-- the state of countEach -/
def CnS (f : Nat) (f0 : PP) (c : Nat) (q : Nat → PP) (I : TI) (L : TL) (A : TA) (i : Nat) (n : Nat → Nat) (B : PP) : Prop := (∃ d, RowN I L (f + 55) (d + 1)) ∧ pl L (f + 55) = B ∧ Pf B ∧ pm (prd q n c) B = f0 ∧ FLs (f + 69) I L A c q n ∧ (∀ j, j < i → 0 < n j ∧ ¬ dv (q j) B) ∧ ∀ j, i < j → n j = 0
theorem prd_up {q : Nat → PP} {n : Nat → Nat} {i : Nat} : ∀ c, i < c → prd q (upN n i (n i + 1)) c = pm (q i) (prd q n c)
  | 0, h => absurd h (Nat.not_lt_zero _)
  | c + 1, h => by
    rw [prd, prd]
    by_cases w : i = c
    · subst w
      rw [prd_congr (q := q) (n := upN n i (n i + 1)) (q' := q) (n' := n) i (fun j hj => ⟨rfl, if_neg (by omega)⟩)]
      have : upN n i (n i + 1) i = n i + 1 := if_pos rfl
      rw [this]
      show pm (prd q n i) (pm (q i) (pw (q i) (n i))) = _
      rw [← pma, pmc (prd q n i), pma]
    · have : upN n i (n i + 1) c = n c := if_neg (fun e => w e.symm)
      rw [this, prd_up c (by omega), pma]
set_option maxHeartbeats 4000000 in
theorem s_countEach {f c : Nat} {q : Nat → PP} {n0 : Nat → Nat} {f0 g r0 q' : PF} (hf : isX0 K f) (ho : isX2 K (f + 69)) (hPA : PermA A (f + 69)) (hs7 : sm7 f0.1) (hpr : prim f0.1) (hb : ∃ d, RowN I L (f + 55) (d + 1)) (hpb : pl L (f + 55) = f0.1) (hpos : posL f0.1) (hfl : FLs (f + 69) I L A c q n0) (hq : ∀ i, i < c → n0 i = 0 ∧ Irr (q i) ∧ posL (q i)) (hr : r0.1 = prd q one1 c) (hdis : ∀ i j, i < c → j < c → i ≠ j → q i ≠ q j) (hgr : (letI := pfR; g * r0) = f0) (hgd : (letI := pfR; g * q') = dP f0) : ConV K yX0_countEach wsX0_countEach 3 92 I L A [.ref f] (fun I' L' A' => (∃ n, Fac f0.1 c q n ∧ FLs (f + 69) I' L' A c q n) ∧ I' (f + 69) = I (f + 69) ∧ Fr (f + 55) (f + 84) I I' L L' ∧ A' = A) := by
  obtain ⟨hf0, hx3, h55, h57, h59, h61, h63, h65, h67⟩ := hf
  have hc6 := hfl.2.1
  obtain ⟨D0, hD0, hD0p⟩ := hpos
  have hD06 : D0 < 7 := hD0.lt hs7.1
  have hne0 : f0.1 ≠ p0 := hD0.ne
  have hqpf : ∀ i, i < c → Pf (q i) := fun i hi => (hq i hi).2.1.pf
  have hg0 : g.1 ≠ p0 := fun z => hne0 (by rw [← hgr]; show pm g.1 r0.1 = p0; rw [z, pm_0l])
  have hqf0 : ∀ i, i < c → dv (q i) f0.1 := fun i hi => by
    have h1 := prd1_dv c hqpf i hi
    rw [← hr] at h1
    exact h1.trans ⟨g.1, g.2, by rw [pmc]; exact congrArg Subtype.val hgr⟩
  have hprd0 : ∀ k, prd q (fun _ => 0) k = pk0 1 := by
    intro k
    induction k with
    | zero => rfl
    | succ k ih => rw [prd, ih]; exact pm_1l _
  have hfl0 : FLs (f + 69) I L A c q (fun _ => 0) := ⟨hfl.1, hfl.2.1, fun i hi => by
    obtain ⟨a1, a2, a3, a4⟩ := hfl.2.2 i hi
    rw [(hq i hi).1] at a3
    exact ⟨a1, a2, a3, Nat.zero_le _⟩⟩
  apply w_X0_countEach
  unfold wp_X0_countEach wp_X0_countEach_2
  refine ⟨fun μ I' L' A' x => ∃ i n B, i + μ = c ∧ x = nI i ∧ CnS f f0.1 c q I' L' A i n B ∧ n i = 0 ∧ I' (f + 69) = I (f + 69) ∧ Fr (f + 55) (f + 84) I I' L L' ∧ A' = A, c, ⟨0, fun _ => 0, f0.1, by omega, rfl, ⟨hb, hpb, f0.2, by rw [hprd0, pm_1l], hfl0, fun j hj => absurd hj (Nat.not_lt_zero _), fun _ _ => rfl⟩, rfl, rfl, Fr.refl _ _ _ _, rfl⟩, ?_⟩
  rintro μ C hC I1 L1 A1 _ ⟨i, n, B, hi, rfl, hS, hni, h69, fr1, rfl⟩
  have hS' := hS
  obtain ⟨s1, s2, s3, s4, s5, s6, s7⟩ := hS
  have h2c : I1 (f + 69) 2 = nI c := s5.1
  refine ⟨hf0, ho.1, fun z => ?_, fun z => ?_⟩
  · -- all are counted
    rw [h2c, ile, tI (by omega), tI (by omega)] at z
    have : i = c := by omega
    subst this
    refine ⟨⟨n, ?_, s5⟩, h69, fr1, rfl⟩
    have hBp := prim_pm (x := prd q n i) (y := B) (by rw [s4]; exact hpr)
    have hB0 : B ≠ p0 := fun z => hne0 (by rw [← s4, z, pmc, pm_0l])
    obtain ⟨dB, hdB⟩ := s3.dg hB0
    have hBf : dv B f0.1 := ⟨prd q n i, prd_pf i hqpf, by rw [pmc]; exact s4⟩
    have hdB0 : dB = 0 := by
      rcases Nat.eq_zero_or_pos dB with t | t
      · exact t
      · exfalso
        obtain ⟨t0, ht0, htd0⟩ := irr_fac dB B dB (Nat.le_refl _) hBp.2 hdB t
        obtain ⟨t1, ht1, hp1, htt⟩ := pos_irr ht0
        have htB := htt B htd0
        obtain ⟨tf, htf⟩ : ∃ tf : PF, tf.1 = t1 := ⟨⟨t1, ht1.pf⟩, rfl⟩
        have h1 := rad (t := tf) (by rw [htf]; exact ht1) hgr hgd hg0 (by rw [htf]; exact htB.trans hBf)
        rw [htf, hr] at h1
        obtain ⟨j, hj, -, hdj⟩ := irr_prd ht1 i hqpf h1
        have e := irr_eq ht1 (hq j hj).2.1 hp1 (hq j hj).2.2 hdj
        exact (s6 j hj).2 (by rw [← e]; exact htB)
    subst hdB0
    have hBpos : 0 < B 0 := by
      obtain ⟨D, hcD, hDd⟩ := prd_dg (q := q) (n := n) i (fun j hj => ⟨(hq j hj).2.1.1, (s6 j hj).1⟩)
      have hpp : 0 < prd q n i D := by
        have key : ∀ k, k ≤ i → ∃ D, dgI (prd q n k) D ∧ 0 < prd q n k D := by
          intro k
          induction k with
          | zero => intro _; exact ⟨0, dgI_1, by show (0 : Int) < 1; decide⟩
          | succ k ih =>
            intro hk
            obtain ⟨D1, h1, h2⟩ := ih (by omega)
            obtain ⟨d2, h3, h4⟩ := (hq k (by omega)).2.2
            have hpw : ∀ m, dgI (pw (q k) m) (m * d2) ∧ 0 < pw (q k) m (m * d2) := by
              intro m
              induction m with
              | zero => rw [Nat.zero_mul]; exact ⟨dgI_1, by show (0 : Int) < 1; decide⟩
              | succ m ihm =>
                have h5 := pw_dg h3 (m + 1)
                refine ⟨h5, ?_⟩
                have h6 := pm_top _ _ _ _ h3.2 ihm.1.2
                rw [show (m + 1) * d2 = d2 + m * d2 by rw [Nat.add_mul, Nat.one_mul, Nat.add_comm]]
                show 0 < pm (q k) (pw (q k) m) (d2 + m * d2)
                rw [h6]; exact Int.mul_pos h4 ihm.2
            obtain ⟨h5, h6⟩ := hpw (n k)
            refine ⟨D1 + n k * d2, h1.mul h5, ?_⟩
            show 0 < pm (prd q n k) (pw (q k) (n k)) (D1 + n k * d2)
            rw [pm_top _ _ _ _ h1.2 h5.2]
            exact Int.mul_pos h2 h6
        obtain ⟨D2, h1, h2⟩ := key i (Nat.le_refl _)
        rw [hDd.uniq h1]; exact h2
      have hD0' := hD0
      rw [← s4] at hD0'
      obtain ⟨-, e4⟩ := dg_lead hDd hdB hD0'
      rw [s4] at e4
      rw [e4] at hD0p
      rcases Int.lt_or_le 0 (B 0) with t | t
      · exact t
      · have := Int.mul_nonpos_of_nonneg_of_nonpos (show 0 ≤ prd q n i D by omega) t
        omega
    have hB1 := prim_1c hBp.2 hdB hBpos
    rw [hB1, pm_1r] at s4
    exact ⟨s4.symm, fun j hj => ⟨(hq j hj).2.1, (hq j hj).2.2, (s6 j hj).1⟩, hdis⟩
  rw [h2c, ile, tI (by omega), tI (by omega)] at z
  have hic : i < c := by omega
  have hi6 : i < 6 := by omega
  obtain ⟨dq, hdq0, hdq⟩ := (hq i hic).2.1.1
  unfold wp_X0_countEach_15
  refine ⟨fun ν I' L' A' x1 x2 => ∃ k n B, k + ν = 6 ∧ x1 = nI i ∧ x2 = nI k ∧ CnS f f0.1 c q I' L' A1 i n B ∧ n i = k ∧ I' (f + 69) = I (f + 69) ∧ Fr (f + 55) (f + 84) I I' L L' ∧ A' = A1, 6, ⟨0, n, B, rfl, rfl, rfl, hS', hni, h69, fr1, rfl⟩, ?_⟩
  clear s1 s2 s3 s4 s5 s6 s7 hS' h2c hni
  rintro ν D hD I2 L2 A2 _ _ ⟨k, n, B, hk, rfl, rfl, hS, hnk, h692, fr2, rfl⟩
  have hS' := hS
  obtain ⟨⟨dB, nB⟩, s2, s3, s4, s5, s6, s7⟩ := hS
  have hBf : dv B f0.1 := ⟨prd q n c, prd_pf c hqpf, by rw [pmc]; exact s4⟩
  have hBd : dgI B dB := by rw [← s2]; exact nB.dg
  have leave : ¬ dv (q i) B → ∀ (I3 : TI) (L3 : TL) (v : Int32), CnS f f0.1 c q I3 L3 A2 i n B → I3 (f + 69) = I (f + 69) → Fr (f + 55) (f + 84) I I3 L L3 → v = nI i + 1 → C I3 L3 A2 v := fun hnd I3 L3 v hS3 h3 f3 hv => by
    refine hC (μ - 1) _ _ _ _ (by omega) ⟨i + 1, n, B, by omega, by rw [hv, sI], ⟨hS3.1, hS3.2.1, hS3.2.2.1, hS3.2.2.2.1, hS3.2.2.2.2.1, fun j hj => ?_, fun j hj => s7 j (by omega)⟩, s7 (i + 1) (by omega), h3, f3, rfl⟩
    by_cases w : j = i
    · subst w
      refine ⟨?_, hnd⟩
      rcases Nat.eq_zero_or_pos (n j) with t | t
      · exfalso
        have h1 := hqf0 j hic
        rw [← s4] at h1
        rcases irr_dv (hq j hic).2.1 (prd_pf c hqpf) s3 h1 with w | w
        · obtain ⟨l, hl, hnl, hdl⟩ := irr_prd (hq j hic).2.1 c hqpf w
          have e := irr_eq (hq j hic).2.1 (hq l hl).2.1 (hq j hic).2.2 (hq l hl).2.2 hdl
          by_cases w2 : l = j
          · subst w2; omega
          · exact hdis j l hic hl (fun t => w2 t.symm) e
        · exact hnd w
      · exact t
    · exact s6 j (by omega)
  refine ⟨fun w v hv => ?_, fun w => ?_⟩
  · rw [ile, li6, tI (by omega)] at w
    have hk6 : k = 6 := by omega
    refine leave (fun hd => ?_) I2 L2 v hS' h692 fr2 hv
    -- the degree would be too high
    obtain ⟨r1, hr1, er1, -⟩ := prd_split (n := n) c hqpf i hic
    have h1 : dv (pw (q i) 6) (prd q n c) := by
      rw [er1, hnk, hk6]; exact dv_mul_l hr1
    have h2 := hd.le hdq hBd
    have hP0 : prd q n c ≠ p0 := fun z => hne0 (by rw [← s4, z, pm_0l])
    obtain ⟨dP', hdP⟩ := (prd_pf (n := n) c hqpf).dg hP0
    have h3 := h1.le (pw_dg hdq 6) hdP
    have h4 := (hdP.mul hBd).uniq (by rw [s4]; exact hD0)
    omega
  · rw [ile, li6, tI (by omega)] at w
    obtain ⟨⟨dr, nr⟩, pr, o1, o2⟩ := s5.2.2 i hic
    have hbi := hPA.bd hi6
    have hrow := hPA.row ho hi6
    have hqi : q i ≠ p0 := hdq.ne
    have bq : ∀ k, -33350 ≤ q i k ∧ q i k ≤ 33350 := by
      obtain ⟨t, ht, et⟩ := hqf0 i hic
      exact (div_le (hqpf i hic) ht hs7 hne0 et).2
    have bB : ∀ k, -33350 ≤ B k ∧ B k ≤ 33350 := by
      obtain ⟨t, ht, et⟩ := hBf
      exact (div_le s3 ht hs7 hne0 et).2
    refine ⟨hf0, ho.1, ho.a hi6 (tI (by omega)), h65.1, ?_⟩
    rw [ixn (by omega)]
    refine ⟨_, s_becomeQuotient (MA := 33350) (MB := 33350) h65 h55 hrow h67 (by omega) (by omega) (by omega) (by omega) (by omega) nB.1 nr.1 (nr.2 dr rfl) (fun k => by rw [s2]; have := bB k; omega) (fun k => by rw [pr]; have := bq k; omega) (by omega) (by omega), ?_⟩
    rintro v I3 L3 A3 ⟨hv, -, -, c3, rfl⟩
    rw [s2, pr] at hv
    have f3 : Fr (f + 65) (f + 69) I2 I3 L2 L3 := c3.fab (fun r hr => by omega)
    have hS3 : CnS f f0.1 c q I3 L3 A3 i n B := ⟨⟨dB, nB.fr f3 (Or.inl (by omega))⟩, (fr_pl f3 (Or.inl (by omega))).trans s2, s3, s4, s5.fr hPA f3 (Or.inr (by omega)), s6, s7⟩
    have f3' : Fr (f + 55) (f + 84) I I3 L L3 := fr2.trans (f3.mono (by omega) (by omega))
    have h693 : I3 (f + 69) = I (f + 69) := (f3 (f + 69) (by omega)).1.trans h692
    refine ⟨fun z2 v12 e12 => ?_, fun z2 => ?_⟩
    · have hno := (hv.resolve_left (fun t => by rw [t.1] at z2; exact absurd z2 (by decide))).2
      refine leave (fun hd => ?_) I3 L3 v12 hS3 h693 f3' e12
      obtain ⟨x, hx, ex⟩ := hd
      refine hno x ⟨hx, ex, fun k => ?_⟩
      have hxf : dv x f0.1 := (show dv x B from ⟨q i, hqpf i hic, by rw [pmc]; exact ex⟩).trans hBf
      obtain ⟨t, ht, et⟩ := hxf
      have := (div_le hx ht hs7 hne0 et).2 k
      omega
    · obtain ⟨-, ⟨hxp, hxe, -⟩, htp⟩ := hv.resolve_right (fun t => z2 t.1)
      have n65 := rn_ln htp
      refine ⟨h55.1, _, s_become h55 h65, ?_⟩
      rintro I4 L4 A4 ⟨e4, e4', rfl⟩
      have c4 : ChR (· = f + 55) I3 I4 L3 L4 := by rw [e4, e4']; exact become_ch
      have f4 : Fr (f + 55) (f + 57) I3 I4 L3 L4 := c4.fab (fun r hr => by omega)
      refine ⟨ho.n hi6 (tI (by omega)), ho.n hi6 (tI (by omega)), fun I5 e5 v22 e22 => ?_⟩
      have p45 : pl L4 (f + 55) = pl L3 (f + 65) := by unfold pl; rw [e4', us_self]
      have hx0 : pl L3 (f + 65) ≠ p0 := fun z => hBd.ne (by rw [← hxe, z, pmc, pm_0l])
      have k5 : ∀ y, y ≠ f + 69 + 14 → I5 y = I4 y := fun y hy => by rw [e5, u2_off _ _ hy]
      obtain ⟨dx, hdx⟩ := hxp.dg hx0
      have hlen := n65.len hdx
      have n45 : RowN I5 L4 (f + 55) (dx + 1) := by
        rw [hlen] at n65
        exact ⟨⟨by rw [k5 _ (by omega), e4, u2_self]; exact n65.1.1, n65.1.2.1, fun j h3 h4 => by rw [e4', us_self]; exact n65.1.2.2 j h3 h4⟩, fun e' he => by rw [p45]; exact n65.2 e' he⟩
      have u1 : ∀ j, j ≠ i → upN n i (n i + 1) j = n j := fun j hj => if_neg hj
      have u2' : upN n i (n i + 1) i = n i + 1 := if_pos rfl
      have s54 := (s5.fr hPA f3 (Or.inr (by omega))).fr hPA f4 (Or.inr (by omega))
      refine hD (ν - 1) _ _ _ _ _ (by omega) ⟨k + 1, upN n i (n i + 1), pl L3 (f + 65), by omega, rfl, by rw [e22, sI], ⟨⟨dx, n45⟩, p45, hxp, ?_, ⟨by rw [k5 _ (by omega)]; exact s54.1, hc6, fun j hj => ?_⟩, fun j hj => ?_, fun j hj => ?_⟩, by rw [u2', hnk], ?_, ?_, rfl⟩
      · rw [prd_up c hic, pmc (q i), pma, hxe]; exact s4
      · obtain ⟨⟨a0, a1⟩, a2, a3, a4⟩ := s54.2.2 j hj
        have hbj := hPA.bd (show j < 6 by omega)
        refine ⟨⟨a0, a1.keep (k5 _ (by omega)) rfl⟩, a2, ?_, ?_⟩
        · rw [e5]
          by_cases w2 : j = i
          · subst w2
            rw [u2_self, u2', a3, sI]
          · rw [u2_ne _ _ (fun t => w2 t.2), u1 j w2]; exact a3
        · by_cases w2 : j = i
          · subst w2; rw [u2', hnk]; omega
          · rw [u1 j w2]; exact a4
      · rw [u1 j (by omega)]
        refine ⟨(s6 j hj).1, fun hd => (s6 j hj).2 (hd.trans ?_)⟩
        exact ⟨q i, hqpf i hic, by rw [pmc]; exact hxe⟩
      · rw [u1 j (by omega)]; exact s7 j hj
      · rw [k5 _ (by omega), (f4 (f + 69) (by omega)).1]; exact h693
      · exact f3'.trans ((f4.mono (by omega) (by omega)).trans (fun y hy => ⟨k5 y (by omega), rfl⟩))
end
