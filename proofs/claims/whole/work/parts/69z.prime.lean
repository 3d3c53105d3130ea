/-! ONE PRIME'S STEP of the common divisor -/
section
theorem gm_ge {p : Int} (hp : Pr p) {G a b g : PP} {e dg : Nat} (hG : GcdM p G a b) (hGe : md p G e) (hga : dv g a) (hgb : dv g b) (hgd : dgI g dg) (hl : ¬ p ∣ g dg) : ∃ k, Pf k ∧ cg p G (pm g k) ∧ dg ≤ e ∧ md p k (e - dg) := by
  obtain ⟨⟨u, v, hu, hv, hc⟩, -, -⟩ := hG
  obtain ⟨a', ha', rfl⟩ := hga
  obtain ⟨b', hb', rfl⟩ := hgb
  have e1 : pa (pm u (pm g a')) (pm v (pm g b')) = pm g (pa (pm u a') (pm v b')) := funext fun k => by
    rw [pm_add_r g]
    show pm u (pm g a') k + pm v (pm g b') k = _
    rw [← pm_assoc, ← pm_assoc, ← pm_assoc, ← pm_assoc, show pm u g = pm g u from funext fun i => pm_comm i u g, show pm v g = pm g v from funext fun i => pm_comm i v g]
  rw [e1] at hc
  have hk : Pf (pa (pm u a') (pm v b')) := (hu.mul ha').add (hv.mul hb')
  have hna : ¬ al p (pa (pm u a') (pm v b')) := fun z => hGe.1 ((hc.alof (fun k => low0 _ k g (fun b _ => z b))) e)
  obtain ⟨n, hn⟩ := hk
  obtain ⟨d, -, hd⟩ := md_ex n hn hna
  have h1 := (hgd.mdp hl).mul hp hd
  have h2 := h1.uniq (hGe.of_cg hc)
  exact ⟨_, ⟨n, hn⟩, hc, by omega, by rw [show e - dg = d by omega]; exact hd⟩
theorem gm_eq {p : Int} (hp : Pr p) {G a b g : PP} {dg : Nat} (hG : GcdM p G a b) (hGe : md p G dg) (h1 : G dg = 1) (hga : dv g a) (hgb : dv g b) (hgd : dgI g dg) (hl : ¬ p ∣ g dg) : cg p (pc (g dg) G) g := by
  obtain ⟨k, hk, hc, -, hmd⟩ := gm_ge hp hG hGe hga hgb hgd hl
  rw [Nat.sub_self] at hmd
  have hk0 : cg p k (pk0 (k 0)) := by
    have := hmd.cut (show 0 < 1 by omega)
    rw [show ct k 1 = pk0 (k 0) from by rw [dl1 (ct_dl k 1), ct_lt (by omega)]] at this
    exact this
  have hG2 : cg p G (pc (k 0) g) := by
    have := hc.trans (cg.mul_r g hk0)
    rw [pm_k_r] at this
    exact this
  have hone : p ∣ 1 - k 0 * g dg := by
    have := hG2 dg
    rw [h1] at this
    exact this
  intro j
  have h2 := hG2 j
  simp only [pc] at h2 ⊢
  have h3 : p ∣ g dg * (G j - k 0 * g j) := Int.dvd_mul_of_dvd_right h2
  have h4 : p ∣ (1 - k 0 * g dg) * g j := Int.dvd_mul_of_dvd_left hone
  have h5 := Int.dvd_sub h3 h4
  rw [show g dg * (G j - k 0 * g j) - (1 - k 0 * g dg) * g j = g dg * G j - g j by grind] at h5
  exact h5
/-- what is left of two without their greatest common divisor -/
theorem gcd_inj {a b g : PP} {m n dg : Nat} (ha : dgI a m) (hb : dgI b n) (hg : Gcd g a b) (hgd : dgI g dg) : dg ≤ m ∧ dg ≤ n ∧ inj2 a b (n - dg) (m - dg) := by
  obtain ⟨hgp, hga, hgb, d, hd, hpos, hmax⟩ := hg
  have hdd : d = dg := hd.uniq hgd
  subst hdd
  have h1 := hga.le hgd ha
  have h2 := hgb.le hgd hb
  refine ⟨h1, h2, ?_⟩
  obtain ⟨a', ha', ea⟩ := hga
  obtain ⟨b', hb', eb⟩ := hgb
  have ha0 : a' ≠ p0 := fun z => ha.ne (by rw [← ea, z]; funext k; rw [pm_comm, pm_0l])
  have hb0 : b' ≠ p0 := fun z => hb.ne (by rw [← eb, z]; funext k; rw [pm_comm, pm_0l])
  obtain ⟨m', hm'⟩ := ha'.dg ha0
  obtain ⟨n', hn'⟩ := hb'.dg hb0
  have em : d + m' = m := (show dgI a (d + m') from by rw [← ea]; exact hgd.mul hm').uniq ha
  have en : d + n' = n := (show dgI b (d + n') from by rw [← eb]; exact hgd.mul hn').uniq hb
  obtain ⟨x, y, c, hc, hx, hy, hxy⟩ := coprime_bz ha' hb' (Or.inl ha0) (fun q k hq hqk hqa hqb => by
    obtain ⟨⟨k', hk', hqk'⟩, -, -⟩ := hq
    have hkk := hqk.uniq hqk'
    obtain ⟨s, hs, es⟩ := hqa
    obtain ⟨t, ht, et⟩ := hqb
    have := hmax (pm g q) (d + k) ⟨s, hs, by rw [← ea, ← es]; funext i; rw [pm_assoc]⟩ ⟨t, ht, by rw [← eb, ← et]; funext i; rw [pm_assoc]⟩ (hgd.mul hqk)
    omega)
  intro u v hu hv huv
  have hz : pa (pm u a') (pm v b') = p0 := by
    have e1 : pm g (pa (pm u a') (pm v b')) = p0 := by
      rw [← huv, ← ea, ← eb]
      funext k
      rw [pm_add_r g]
      show _ = pm u (pm g a') k + pm v (pm g b') k
      rw [← pm_assoc, ← pm_assoc, ← pm_assoc, ← pm_assoc, show pm u g = pm g u from funext fun i => pm_comm i u g, show pm v g = pm g v from funext fun i => pm_comm i v g]
    rcases pm_ne hgd.pf ((Pf.mul ⟨_, hu⟩ ha').add (Pf.mul ⟨_, hv⟩ hb')) e1 with q | q
    · exact absurd q hgd.ne
    · exact q
  have hv0 : v = p0 := by
    by_cases q : v = p0
    · exact q
    · obtain ⟨k, hk⟩ := Pf.dg ⟨_, hv⟩ q
      have hlt := hk.lt hv
      have e2 : pc c v = pm a' (pa (pm x v) (pc (-1) (pm y u))) := by
        have e3 : pc c v = pm (pk0 c) v := funext fun i => (pm_c0 c v i).symm
        rw [e3, hxy]
        funext i
        rw [pm_add_l, pm_add_r a', pm_c_r]
        have e4 : pm (pm x a') v i = pm a' (pm x v) i := by
          rw [← pm_assoc, show pm a' x = pm x a' from funext fun j => pm_comm j a' x]
        have e5 : pm (pm y b') v i = -1 * pm a' (pm y u) i := by
          have e6 : pm v b' = pc (-1) (pm u a') := funext fun j => by
            have := congrFun hz j
            simp only [pa, p0] at this
            simp only [pc]
            omega
          rw [pm_assoc, show pm b' v = pm v b' from funext fun j => pm_comm j b' v, e6, pm_c_r, ← pm_assoc, pm_comm]
        rw [e4, e5]
      have hkc : dgI (pc c v) k := ⟨Int.mul_ne_zero hc hk.1, fun j hj => by simp only [pc]; rw [hk.2 j hj]; simp⟩
      have := dv.le (⟨_, ((hx.mul ⟨_, hv⟩).add ((hy.mul ⟨_, hu⟩).c (-1))), e2.symm⟩ : dv a' (pc c v)) hm' hkc
      omega
  refine ⟨?_, hv0⟩
  rw [hv0, pm_0l, pa_0] at hz
  rcases pm_ne ⟨_, hu⟩ ha' hz with q | q
  · exact q
  · exact absurd q ha0
/-- a prime at which the degree is too high gives a combination of low degree -/
theorem gm_bad {p : Int} (hp : Pr p) {G a b : PP} {e m n dg : Nat} (hG : GcdM p G a b) (hGe : md p G e) (ha : dgI a m) (hb : dgI b n) (hla : ¬ p ∣ a m) (hlb : ¬ p ∣ b n) (hbad : dg < e) : ∃ u v, dl u (n - dg) ∧ dl v (m - dg) ∧ ¬ (al p u ∧ al p v) ∧ zro p a b u v := by
  obtain ⟨-, ⟨s, hs, es⟩, ⟨t, ht, et⟩⟩ := hG
  have hma := ha.mdp hla
  have hmb := hb.mdp hlb
  have key : ∀ (x z : PP) (k : Nat), Pf z → cg p x (pm z G) → md p x k → ∃ d, md p z d ∧ d + e = k := by
    intro x z k hz hc hx
    have hna : ¬ al p z := fun w => hx.1 (hc.alof (fun i => by rw [pm_comm]; exact low0 z i G (fun b _ => w b)) k)
    obtain ⟨N, hN⟩ := hz
    obtain ⟨d, -, hd⟩ := md_ex N hN hna
    exact ⟨d, hd, (hd.mul hp hGe).uniq (hx.of_cg hc)⟩
  obtain ⟨ds, hds, es'⟩ := key a s m hs es hma
  obtain ⟨dt, hdt, et'⟩ := key b t n ht et hmb
  have cs := hds.cut (show ds < m - dg by omega)
  have ct' := hdt.cut (show dt < n - dg by omega)
  refine ⟨ct t (n - dg), pc (-1) (ct s (m - dg)), ct_dl _ _, fun k hk => by simp only [pc]; rw [ct_dl s _ k hk]; rfl, fun z => ?_, ?_⟩
  · have h1 : al p (ct s (m - dg)) := fun k => by
      have := z.2 k
      simp only [pc] at this
      rw [show -1 * ct s (m - dg) k = -(ct s (m - dg) k) by omega] at this
      exact Int.dvd_neg.mp this
    exact hds.1 ((cs.alof h1) ds)
  · have h1 : cg p (pm (ct t (n - dg)) a) (pm (pm t s) G) := by
      refine (cg.mul_l a ct'.symm).trans ((cg.mul_r t es).trans ?_)
      rw [show pm t (pm s G) = pm (pm t s) G from funext fun k => (pm_assoc s G k t).symm]
      exact cg.refl _ _
    have h2 : cg p (pm (ct s (m - dg)) b) (pm (pm t s) G) := by
      refine (cg.mul_l b cs.symm).trans ((cg.mul_r s et).trans ?_)
      rw [show pm s (pm t G) = pm (pm s t) G from funext fun k => (pm_assoc t G k s).symm, show pm s t = pm t s from funext fun k => pm_comm k s t]
      exact cg.refl _ _
    intro k
    have h3 := Int.dvd_sub (h1 k) (h2 k)
    simp only [pa]
    rw [pm_c_l]
    rw [show pm (ct t (n - dg)) a k - pm (pm t s) G k - (pm (ct s (m - dg)) b k - pm (pm t s) G k) = pm (ct t (n - dg)) a k + -1 * pm (ct s (m - dg)) b k by omega] at h3
    exact h3
theorem pr_trial {n B : Nat} (h1 : 1 < n) (hB : n < B * B) (h : ∀ k, 1 < k → k < B → ¬ k ∣ n) : Pr (n : Int) := by
  refine pr_of h1 (fun d hd => ?_)
  obtain ⟨c, hc⟩ := hd
  by_cases q : d = 1
  · exact Or.inl q
  · by_cases q2 : d = n
    · exact Or.inr q2
    · exfalso
      have hd0 : d ≠ 0 := fun z => by rw [z] at hc; omega
      have hc0 : c ≠ 0 := fun z => by rw [z] at hc; omega
      have hc1 : c ≠ 1 := fun z => by rw [z] at hc; omega
      rcases Nat.lt_or_ge d B with w | w
      · exact h d (by omega) w ⟨c, hc⟩
      · rcases Nat.lt_or_ge c B with w2 | w2
        · exact h c (by omega) w2 ⟨d, by rw [hc, Nat.mul_comm]⟩
        · have := Nat.mul_le_mul w w2
          omega
theorem all_lt {P : Nat → Bool} : ∀ n, (List.range n).all P = true → ∀ k, k < n → P k = true := fun n h k hk => List.all_eq_true.mp h k (List.mem_range.mpr hk)
set_option maxRecDepth 100000 in
theorem big_pr : ∀ i, i < 6 → Pr (bigP i).toInt := by
  have key : ∀ n : Nat, 1 < n → n < 5793 * 5793 → (List.range 5793).all (fun k => k < 2 || n % k != 0) = true → Pr (n : Int) := fun n h1 h2 h => pr_trial h1 h2 (fun k hk1 hk2 hd => by
    have := all_lt 5793 h k hk2
    rw [Nat.mod_eq_zero_of_dvd hd] at this
    simp at this
    omega)
  intro i hi
  match i, hi with
  | 0, _ => exact key 33554467 (by decide) (by decide) (by decide +kernel)
  | 1, _ => exact key 33554473 (by decide) (by decide) (by decide +kernel)
  | 2, _ => exact key 33554501 (by decide) (by decide) (by decide +kernel)
  | 3, _ => exact key 33554503 (by decide) (by decide) (by decide +kernel)
  | 4, _ => exact key 33554509 (by decide) (by decide) (by decide +kernel)
  | 5, _ => exact key 33554519 (by decide) (by decide) (by decide +kernel)
end
