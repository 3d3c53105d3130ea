/-! RESIDUES: multiplyModulo -/
section
variable {K : Cx} {I : TI} {L : TL} {A : TA}
theorem pm_bd7 {f g : PP} {p d : Nat} (hf : rsd p f) (hg : rsd p g) (hd : dl f d) (h7 : d ≤ 7) (hp2 : p < 67108864) (k : Nat) : (pm f g k).natAbs ≤ 7 * 4503599627370496 := by
  have h1 := pm_part (a := f) (b := g) (M := 67108864) (N := 67108864) (n := 7) (i := d) (k := k) (fun k => by have := hf k; omega) (fun k => by have := hg k; omega) h7
  rw [ct_all hd] at h1
  exact h1
/-- the rest of the wide row -/
theorem mm_rest {o out a b m p e n : Nat} {f : PP} {x5 : Int32} {Q : TI → TL → TA → Prop} (ho : isX3 K o) (h : isRow K out) (hm : isRow K m) (hp : mdl L o = p) (hp1 : 1 < p) (hp2 : p < 67108864) (rm : rsd p (pl L m)) (sm : St I L m (e + 1)) (h1 : pl L m e = 1) (hn : n ≤ 13) (hx : x5.toInt = (n : Int) - 1 ∨ (n = 0 ∧ x5.toInt < 0)) (hd : dl (pl L o) n) (hB : ∀ i, (pl L o i).natAbs ≤ 7 * 4503599627370496) (hc : cg p f (pl L o))
    (hQ : ∀ (I' : TI) (L' : TL) (A' : TA), (∃ q, Pf q ∧ cg p f (pa (pm q (pl L m)) (pl L' out))) → rsd p (pl L' out) → dl (pl L' out) e → (∃ d', RowN I' L' out d') → ChR (fun y => y = out ∨ y = o) I I' L L' → A' = A → Q I' L' A') : wp_X3_multiplyModulo_98 K o out a b m I L A x5 Q := by
  have hom := x3_nr ho.1 hm
  have ho1 := x3_ne ho.1 h
  have he13 := sm.2.1
  have hIm : I m 1 = nI e := by rw [sm.1, tp_s]
  unfold wp_X3_multiplyModulo_98
  refine ⟨fun μ I' L' A' x => ∃ q : PP, μ ≤ 13 ∧ (x.toInt = (μ : Int) - 1 ∨ (μ = 0 ∧ x.toInt < 0)) ∧ I' = I ∧ dl (pl L' o) μ ∧ (∀ i, (pl L' o i).natAbs ≤ (20 - μ) * 4503599627370496) ∧ Pf q ∧ cg p f (pa (pm q (pl L m)) (pl L' o)) ∧ (∀ y, y ≠ o + 1 → L' y = L y) ∧ A' = A, n, ⟨p0, hn, hx, rfl, hd, fun i => ?_, Pf.z, ?_, fun _ _ => rfl, rfl⟩, ?_⟩
  · exact Nat.le_trans (hB i) (Nat.mul_le_mul_right _ (by omega))
  · rw [pm_0l]
    intro k
    show (p : Int) ∣ f k - (0 + pl L o k)
    rw [Int.zero_add]; exact hc k
  rintro μ C hC I' L' A' x ⟨q, hμ, hx, rfl, hd, hB, hq, hcg, h3, rfl⟩
  have hpm : pl L' m = pl L m := pl_keep (h3 (m + 1) (by omega))
  have hmo : (L' o 0).toInt = p := by rw [h3 o (by omega)]; exact hp
  have fin : μ ≤ e → wp_X3_multiplyModulo_200 K o out a b m I' L' A' 0 Q := fun hle => by
    refine mm_out ho h hmo hp1 (fun k => ?_) (fun I2 L2 A2 h4 h5 h6 h7 => ?_)
    · have := hB k
      have h2 : (20 - μ) * 4503599627370496 ≤ 20 * 4503599627370496 := Nat.mul_le_mul_right _ (by omega)
      omega
    · refine hQ I2 L2 A2 ⟨q, hq, hcg.trans (fun k => ?_)⟩ (rsd_of (by omega) h4) (fun k hk => ?_) h5 ⟨fun y hy => h6.1 y (fun w => hy (Or.inl w)), fun y hy => ?_⟩ h7
      · show (p : Int) ∣ pm q (pl L m) k + pl L' o k - (pm q (pl L m) k + pl L2 out k)
        rw [h4 k]
        have := Int.dvd_neg.mpr (mod_dvd (pl L' o k) p)
        rwa [show -(pl L' o k % ↑p - pl L' o k) = pm q (pl L m) k + pl L' o k - (pm q (pl L m) k + pl L' o k % ↑p) by omega] at this
      · rw [h4 k, hd k (by omega)]; simp
      · rw [h6.2 y (fun r hr => hy r (Or.inl hr)), h3 y (hy o (Or.inr rfl))]
  refine ⟨hm.1, fun z => fin ?_, fun z => ⟨fun z2 => fin ?_, fun z2 => ?_⟩⟩
  · rw [hIm, ilt, tI (by omega)] at z
    omega
  · rw [ilt, li0] at z2
    omega
  · rw [hIm, ilt, tI (by omega)] at z
    rw [ilt, li0] at z2
    obtain ⟨k, rfl⟩ : ∃ k, μ = k + 1 := ⟨μ - 1, by omega⟩
    have hxk : x.toInt = (k : Int) := by omega
    have hxe : x = nI k := eqn hxk
    subst hxe
    have hok : aok (cxS K) (o + 1) 1 (nI k) := ⟨13, ho.2.2.2, inOf (tI (by omega)) (by omega)⟩
    refine ⟨ho.1, hok, fun w => by rw [j0, hmo] at w; omega, fun t ht => ⟨hok, fun L9 e9 => ?_⟩⟩
    rw [ixn (by omega)] at ht e9
    have hBk := hB k
    rw [pl_lt (by omega)] at hBk
    have hsm : (20 - (k + 1)) * 4503599627370496 ≤ 20 * 4503599627370496 := Nat.mul_le_mul_right _ (by omega)
    have htv : t.toInt = (pl L' o k).tmod p := by rw [ht, jrem _ _ (by omega), hmo, pl_lt (by omega)]
    have htb : t.toInt.natAbs < p := by
      rw [htv, Int.natAbs_tmod]
      exact Nat.mod_lt _ (by omega)
    have htd : (p : Int) ∣ pl L' o k - t.toInt := by
      rw [htv]
      have := Int.mul_tdiv_add_tmod (pl L' o k) p
      exact ⟨(pl L' o k).tdiv p, by omega⟩
    have h9 : ∀ i, pl L9 o i = if i = k then 0 else pl L' o i := fun i => by
      by_cases y : i = k
      · rw [if_pos y, y, pl_lt (by omega), e9, u2_self]; rfl
      · rw [if_neg y]
        unfold pl
        rw [e9, u2_ne _ _ (fun w => y w.2)]
    have h9y : ∀ y, y ≠ o + 1 → L9 y = L' y := fun y hy => by rw [e9, u2_off _ _ hy]
    have hpm9 : pl L9 m = pl L m := (pl_keep (h9y (m + 1) (by omega))).trans hpm
    refine mm_in (p := p) (e := e) ho hm hp1 hp2 (by rw [hpm9]; exact rm) ⟨sm.1, sm.2.1, fun i h5 h6 => by rw [h9y (m + 1) (by omega), h3 (m + 1) (by omega)]; exact sm.2.2 i h5 h6⟩ (by omega) (by omega) htb (fun i => ?_) (fun L2 h4 h5 v hv => ?_)
    · rw [h9 i]
      split
      · exact Nat.zero_le _
      · exact Nat.le_trans (hB i) hsm
    · rw [hpm9] at h4
      have hval : ∀ i, pl L2 o i = pl L' o i - (if k - e ≤ i then t.toInt * pl L m (i - (k - e)) else 0) - (if i = k then pl L' o k - t.toInt else 0) := fun i => by
        rw [h4 i, h9 i]
        by_cases y : i = k
        · rw [if_pos y, if_neg (by omega), if_pos (by omega), if_pos y, y, show k - (k - e) = e by omega, h1]; omega
        · rw [if_neg y, if_neg y]
          by_cases y2 : k - e ≤ i ∧ i < k
          · rw [if_pos y2, if_pos y2.1]; omega
          · rw [if_neg y2]
            by_cases y3 : k - e ≤ i
            · rw [if_pos y3, sm.dl (i - (k - e)) (by omega)]; omega
            · rw [if_neg y3]; omega
      refine hC k _ _ _ _ (by omega) ⟨pa q (mono (k - e) t.toInt), by omega, Or.inl ?_, rfl, fun i hi => ?_, fun i => ?_, hq.add ⟨k + 1, fun i hi => if_neg (by omega)⟩, fun i => ?_, fun y hy => by rw [h5 y hy, h9y y hy, h3 y hy], rfl⟩
      · rw [hv, iadd (by rw [tI (by omega), lim1]; omega) (by rw [tI (by omega), lim1]; omega), tI (by omega), lim1]; omega
      · rw [hval i]
        by_cases y : i = k
        · rw [if_pos (by omega), if_pos y, y, show k - (k - e) = e by omega, h1]; omega
        · rw [if_neg y, hd i (by omega)]
          by_cases y3 : k - e ≤ i
          · rw [if_pos y3, sm.dl (i - (k - e)) (by omega)]; simp
          · rw [if_neg y3]; rfl
      · rw [h4 i, h9 i]
        have b1 := hB i
        have hz : (if i = k then 0 else pl L' o i).natAbs ≤ (20 - (k + 1)) * 4503599627370496 := by split <;> omega
        have b2 : (if k - e ≤ i ∧ i < k then t.toInt * pl L m (i - (k - e)) else 0).natAbs ≤ 4503599627370496 := by
          split
          · have b3 := rm (i - (k - e))
            exact mul_ab (m := 67108864) (n := 67108864) (by omega) (by omega)
          · simp
        have b4 : (20 - k) * 4503599627370496 = (20 - (k + 1)) * 4503599627370496 + 4503599627370496 := by
          rw [show 20 - k = (20 - (k + 1)) + 1 by omega, Nat.add_mul, Nat.one_mul]
        generalize (if i = k then 0 else pl L' o i) = u1 at hz ⊢
        generalize (if k - e ≤ i ∧ i < k then t.toInt * pl L m (i - (k - e)) else 0) = u2 at b2 ⊢
        omega
      · have h6 := hcg i
        show (p : Int) ∣ f i - (pm (pa q (mono (k - e) t.toInt)) (pl L m) i + pl L2 o i)
        rw [pm_add_l, pm_mono, hval i]
        have h7 : (p : Int) ∣ (if i = k then pl L' o k - t.toInt else 0) := by
          split
          · exact htd
          · exact Int.dvd_zero _
        have h8 := Int.dvd_add h6 h7
        refine (show f i - pa (pm q (pl L m)) (pl L' o) i + (if i = k then pl L' o k - t.toInt else 0) = f i - (pm q (pl L m) i + (if k - e ≤ i then t.toInt * pl L m (i - (k - e)) else 0) + (pl L' o i - (if k - e ≤ i then t.toInt * pl L m (i - (k - e)) else 0) - (if i = k then pl L' o k - t.toInt else 0))) from ?_) ▸ h8
        show f i - (pm q (pl L m) i + pl L' o i) + _ = _
        omega
set_option maxHeartbeats 1000000 in
/-- multiplyModulo(out, a, b, m): the rest of a times b by m -/
theorem s_multiplyModulo {o out a b m da db e p : Nat} (ho : isX3 K o) (h : isRow K out) (ha : isRow K a) (hb : isRow K b) (hm : isRow K m) (hp : mdl L o = p) (hp1 : 1 < p) (hp2 : p < 67108864) (ra : rsd p (pl L a)) (rb : rsd p (pl L b)) (rm : rsd p (pl L m)) (sa : St I L a da) (sb : St I L b db) (sm : St I L m (e + 1)) (h1 : pl L m e = 1) (hda : da ≤ 7) (hdb : db ≤ 7) : ConV K yX3_multiplyModulo wsX3_multiplyModulo 1 40 I L A [.ref o, .ref out, .ref a, .ref b, .ref m] (fun I' L' A' => (∃ q, Pf q ∧ cg p (pm (pl L a) (pl L b)) (pa (pm q (pl L m)) (pl L' out))) ∧ rsd p (pl L' out) ∧ dl (pl L' out) e ∧ (∃ d', RowN I' L' out d') ∧ ChR (fun y => y = out ∨ y = o) I I' L L' ∧ A' = A) := by
  have hoa := x3_nr ho.1 ha
  have hob := x3_nr ho.1 hb
  have hom := x3_nr ho.1 hm
  apply w_X3_multiplyModulo
  unfold wp_X3_multiplyModulo
  refine ⟨ho.1, _, s_fill ho.2.2.2, ?_⟩
  rintro I1 L1 A1 ⟨rfl, hz, hy1, rfl⟩
  unfold wp_X3_multiplyModulo_11
  have hM : ∀ k, (pl L a k).natAbs ≤ 67108864 := fun k => by have := ra k; omega
  have hN : ∀ k, (pl L b k).natAbs ≤ 67108864 := fun k => by have := rb k; omega
  refine ⟨fun μ I' L' A' x => ∃ i, i + μ = da ∧ x = nI i ∧ I' = I1 ∧ (∀ k, k < 13 → (L' (o + 1) k).toInt = pm (ct (pl L a) i) (pl L b) k) ∧ (∀ y, y ≠ o + 1 → L' y = L y) ∧ A' = A1, da, ⟨0, by omega, rfl, rfl, fun k hk => ?_, hy1, rfl⟩, ?_⟩
  · rw [hz k hk]
    have : ct (pl L a) 0 = p0 := funext fun k => if_neg (Nat.not_lt_zero k)
    rw [this, pm_0l]
    rfl
  rintro μ C hC I' L' A' _ ⟨i, hi, rfl, rfl, h2, h3, rfl⟩
  refine ⟨ha.1, fun q => ⟨hb.1, fun v43 e43 => ?_⟩, fun q => ?_⟩
  · rw [sa.1, tp_lt (by omega) (by omega)] at q
    have : i = da := by omega
    subst this
    have hpo : pl L' o = pm (pl L a) (pl L b) := funext fun k => by
      by_cases y : k < 13
      · rw [pl_lt y, h2 k y, ct_all sa.dl]
      · have : dl (pm (pl L a) (pl L b)) 13 := by
          have h4 := pm_dl 6 (pl L a) (pl L b) 6 (dl_mono sa.dl hda) (dl_mono sb.dl hdb)
          exact h4
        rw [this k (by omega)]
        exact if_neg y
    have hdp : dl (pl L' o) (i + db - 1) := by
      rw [hpo]
      rcases Nat.eq_zero_or_pos i with z | z
      · have : pl L a = p0 := funext fun k => sa.dl k (by omega)
        rw [this, pm_0l]; exact fun _ _ => rfl
      · rcases Nat.eq_zero_or_pos db with w | w
        · have : pl L b = p0 := funext fun k => sb.dl k (by omega)
          rw [this, pmc, pm_0l]; exact fun _ _ => rfl
        · have h4 := pm_dl (i - 1) (pl L a) (pl L b) (db - 1) (by rw [Nat.sub_add_cancel z]; exact sa.dl) (by rw [Nat.sub_add_cancel w]; exact sb.dl)
          exact dl_mono h4 (by omega)
    have hsum : (I' a 1 + I' b 1).toInt = (i : Int) + db - 2 := by
      rw [sa.1, sb.1, iadd (by rw [tm1 (by omega), tm1 (by omega)]; omega) (by rw [tm1 (by omega), tm1 (by omega)]; omega), tm1 (by omega), tm1 (by omega)]; omega
    have h43 : v43.toInt = (i : Int) + db - 2 := by
      rw [e43]
      show (if (12 : Int32) < I' a 1 + I' b 1 then (12 : Int32) else I' a 1 + I' b 1).toInt = _
      rw [if_neg (by rw [ilt, hsum, show (12 : Int32).toInt = 12 from rfl]; omega), hsum]
    have hpm : pl L' m = pl L m := pl_keep (h3 (m + 1) (by omega))
    refine mm_rest (f := pm (pl L a) (pl L b)) (n := i + db - 1) ho h hm (by show (L' o 0).toInt = p; rw [h3 o (by omega)]; exact hp) hp1 hp2 (by rw [hpm]; exact rm) ⟨sm.1, sm.2.1, fun k h5 h6 => by rw [h3 (m + 1) (by omega)]; exact sm.2.2 k h5 h6⟩ (by rw [hpm]; exact h1) (by omega) (by omega) hdp (fun k => ?_) (by rw [hpo]; exact cg.refl _ _) (fun I2 L2 A2 h5 h6 h7 h8 h9 h10 => ?_)
    · rw [hpo]; exact pm_bd7 ra rb sa.dl hda hp2 k
    · rw [hpm] at h5
      exact ⟨h5, h6, h7, h8, ⟨h9.1, fun y hy => (h9.2 y hy).trans (h3 y (hy o (Or.inr rfl)))⟩, h10⟩
  · rw [sa.1, tp_lt (by omega) (by omega)] at q
    unfold wp_X3_multiplyModulo_23
    refine ⟨fun ν I'' L'' A'' x3 x4 => ∃ j, j + ν = 14 ∧ j ≤ db ∧ x3 = nI i ∧ x4 = nI j ∧ I'' = I' ∧ (∀ k, k < 13 → (L'' (o + 1) k).toInt = pm (ct (pl L a) i) (pl L b) k + if i ≤ k ∧ k < i + j then pl L a i * pl L b (k - i) else 0) ∧ (∀ y, y ≠ o + 1 → L'' y = L y) ∧ A'' = A', 14, ⟨0, rfl, by omega, rfl, rfl, rfl, fun k hk => ?_, h3, rfl⟩, ?_⟩
    · rw [h2 k hk, if_neg (by omega)]; omega
    rintro ν C' hC' I'' L'' A'' _ _ ⟨j, hj, hjd, rfl, rfl, rfl, h4, h5, rfl⟩
    have leave : j = db → ∀ v : Int32, v = nI i + 1 → C I'' L'' A'' v := by
      intro hl v hv
      refine hC (μ - 1) _ _ _ _ (by omega) ⟨i + 1, by omega, by rw [hv, sI], rfl, fun k hk => ?_, h5, rfl⟩
      rw [h4 k hk, pm_ct]
      congr 1
      by_cases y : i ≤ k
      · rw [if_pos y]
        by_cases y2 : k < i + j
        · rw [if_pos ⟨y, y2⟩]
        · rw [if_neg (fun t => y2 t.2), sb.dl (k - i) (by omega)]
          simp
      · rw [if_neg y, if_neg (fun t => y t.1)]
    have hs : j ≤ 7 → (nI i + nI j).toInt = ((i + j : Nat) : Int) := fun _ => iadd_n (tI (by omega)) (tI (by omega)) (by omega)
    refine ⟨hb.1, fun q2 v hv => ?_, fun q2 => ⟨fun q3 v hv => ?_, fun q3 => ?_⟩⟩
    · rw [sb.1, tp_lt (by omega) (by omega)] at q2
      exact leave (by omega) v hv
    · rw [sb.1, tp_lt (by omega) (by omega)] at q2
      rw [ile, li13, hs (by omega)] at q3
      omega
    · rw [sb.1, tp_lt (by omega) (by omega)] at q2
      have hs := hs (by omega)
      have hok : aok (cxS K) (o + 1) 1 (nI i + nI j) := ⟨13, ho.2.2.2, inOf hs (by omega)⟩
      refine ⟨ho.1, hok, ha.1, ha.ok (by omega), hb.ok (by omega), hok, fun L5 e5 v hv => ?_⟩
      rw [ix_of hs, ixn (by omega), ixn (by omega), h5 (a + 1) (by omega), h5 (b + 1) (by omega)] at e5
      refine hC' (ν - 1) _ _ _ _ _ (by omega) ⟨j + 1, by omega, by omega, rfl, by rw [hv, sI], rfl, fun k hk => ?_, fun y hy => ?_, rfl⟩
      · rw [e5]
        by_cases y : k = i + j
        · subst y
          rw [u2_self]
          have e1 := h4 (i + j) hk
          rw [if_neg (by omega)] at e1
          have b1 := pm_part (n := 7) (k := i + j) hM hN (show i ≤ 7 by omega)
          have b2 := hM i
          have b3 := hN j
          rw [pl_lt (by omega)] at b2 b3
          have b4 := mul_ab b2 b3
          have e2 : (L (a + 1) i * L (b + 1) j).toInt = (L (a + 1) i).toInt * (L (b + 1) j).toInt := jmulB b2 b3 (by omega)
          rw [jadd (by rw [e1, e2]; omega) (by rw [e1, e2]; omega), e1, e2, if_pos ⟨by omega, by omega⟩, show i + j - i = j by omega, pl_lt (show i < 13 by omega), pl_lt (show j < 13 by omega)]
          omega
        · rw [u2_ne _ _ (fun t => y t.2), h4 k hk]
          congr 1
          by_cases y2 : i ≤ k ∧ k < i + j
          · rw [if_pos y2, if_pos ⟨y2.1, by omega⟩]
          · rw [if_neg y2, if_neg (fun t => y2 ⟨t.1, by omega⟩)]
      · rw [e5, u2_off _ _ hy]
        exact h5 y hy
end
