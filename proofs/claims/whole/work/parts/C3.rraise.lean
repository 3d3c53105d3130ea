/-! THE REFERENCE modulo a prime: raise, isPrime -/
section
variable {K : Cx} {I : TI} {L : TL} {A : TA}
/-- the same modulo p and f -/
def cgf (p : Int) (f a b : PP) : Prop := dmP p f (pa a (pc (-1) b))
theorem cgf.refl (p : Int) (f a : PP) : cgf p f a a := dmP.zero (fun k => by show p ∣ a k + -1 * a k; rw [show a k + -1 * a k = 0 by omega]; exact Int.dvd_zero p)
theorem cgf.of_cg {p : Int} {f a b : PP} (h : cg p a b) : cgf p f a b := dmP.zero (fun k => by show p ∣ a k + -1 * b k; rw [show a k + -1 * b k = a k - b k by omega]; exact h k)
theorem cgf.trans {p : Int} {f a b c : PP} (h : cgf p f a b) (h' : cgf p f b c) : cgf p f a c := (dmP.add h h').of_cg (fun k => by
  show p ∣ a k + -1 * c k - (a k + -1 * b k + (b k + -1 * c k))
  exact ⟨0, by omega⟩)
theorem cgf.symm {p : Int} {f a b : PP} (h : cgf p f a b) : cgf p f b a := (dmP.c h (-1)).of_cg (fun k => by
  show p ∣ b k + -1 * a k - -1 * (a k + -1 * b k)
  exact ⟨0, by omega⟩)
theorem cgf.of_dv {p : Int} {f g a b : PP} (h : cgf p f a b) (hd : dmP p g f) : cgf p g a b := hd.trans h
/-- by the ring -/
theorem sq_step {p : Int} {f : PP} (s t s' t' b : PF) (e h : Nat) (hz : ZP p f (letI := pfR; s * t ^ e - b)) (ht : ZP p f (letI := pfR; t * t - t')) (hs : (e = 2 * h + 1 ∧ ZP p f (letI := pfR; s * t - s')) ∨ (e = 2 * h ∧ s' = s)) : ZP p f (letI := pfR; s' * t' ^ h - b) := by
  have hi : Idl pfR (ZP p f) := idl_p
  let gg := pfR
  have h1 : ZP p f ((t * t) ^ h - t' ^ h) := hi.pow2 ht h
  have e2 : (t * t) ^ h = t ^ (2 * h) := by
    rw [Nat.mul_comm, pow_mulG, mul_powG]
    have : (t ^ h) ^ 2 = t ^ h * t ^ h := Lean.Grind.Semiring.pow_two _
    rw [this]
  rcases hs with ⟨rfl, hs⟩ | ⟨rfl, rfl⟩
  · have h2 := hi.mul2 hs h1
    rw [e2] at h2
    rw [Lean.Grind.Semiring.pow_succ] at hz
    refine hi.of (hi.sub hz h2) ?_
    generalize t ^ (2 * h) = y
    generalize t' ^ h = z
    grind
  · have h2 := hi.mul2 (hi.refl s') h1
    rw [e2] at h2
    refine hi.of (hi.sub hz h2) ?_
    generalize t ^ (2 * h) = y
    generalize t' ^ h = z
    grind
set_option maxHeartbeats 2000000 in
theorem m_raise {m p D : Nat} {f B : PP} (hm : isX7 K m) (hP : PmR p) (h19 : I m 19 = nI p) (hf : mp I m 0 = f) (rf : rsd p f) (hfd : dgI f D) (hD6 : D ≤ 6) (hB : mp I m 4 = B) (rB : rsd p B) (dB : dl B D) :
    ConV K yX7_raise wsX7_raise 3 76 I L A [.ref m] (fun I' L' A' => (∃ T, mp I' m 4 = T ∧ rsd p T ∧ dl T D ∧ cgf p f (pw B p) T) ∧ MU m (fun s => s = 4 ∨ s = 5 ∨ s = 6 ∨ s = 7 ∨ s = 9) I I' ∧ L' = L ∧ A' = A) := by
  have hp1 : 1 < p := by have := hP.1.1; omega
  have hp9 := hP.2
  have l112 : (112 : Int32).toInt = ((16 * 7 : Nat) : Int) := by decide
  have l112' : (112 : Int32).toInt = ((16 * 7 + 0 : Nat) : Int) := by decide
  apply w_X7_raise
  unfold wp_X7_raise
  refine ⟨hm.1, _, m_modCopy (r := 6) (u := 4) hm (by omega) (by omega), ?_⟩
  rintro I1 L1 A1 ⟨c1, mu1, rfl, rfl⟩
  unfold wp_X7_raise_9
  refine ⟨fun μ I' L' A' x => ∃ i, i + μ = 16 ∧ x = nI i ∧ (∀ k, k < i → mp I' m 7 k = 0) ∧ MU m (· = 7) I1 I' ∧ L' = L1 ∧ A' = A1, 16, ⟨0, rfl, rfl, fun k hk => absurd hk (Nat.not_lt_zero _), MU.refl _ _ _, rfl, rfl⟩, ?_⟩
  rintro μ C hC I' L' A' _ ⟨i, hi, rfl, z1, z2, rfl, rfl⟩
  refine ⟨fun w => ?_, fun w => ?_⟩
  rotate_left
  · rw [ile, li16, tI (by omega)] at w
    have hix := sixn l112 (by omega) (show i < 16 by omega) (tI (k := i) (by omega))
    rw [ix_of hix]
    refine ⟨hm.1, mok hm (by omega) (show i < 16 by omega) hix, fun I25 e25 v26 e26 => ?_⟩
    refine hC (μ - 1) _ _ _ _ (by omega) ⟨i + 1, by omega, by rw [e26, sI], fun k hk => ?_, z2.trans (by rw [e25]; exact mu_u2 (by omega)), rfl, rfl⟩
    rw [mp_lt (by omega), e25]
    by_cases y : k = i
    · rw [y, u2_self]; rfl
    · rw [u2_ne _ _ (fun t => y (by omega)), ← mp_lt (by omega)]; exact z1 k (by omega)
  rw [ile, li16, tI (by omega)] at w
  have hi16 : i = 16 := by omega
  subst hi16
  rw [ix_of l112']
  refine ⟨hm.1, mok hm (show 7 < 10 by omega) (show 0 < 16 by omega) l112', fun I22 e22 => ?_⟩
  have mu22 : MU m (· = 7) I1 I22 := z2.trans (by rw [e22]; exact mu_u2 (by omega))
  have h7 : mp I22 m 7 = pk0 1 := funext fun k => by
    by_cases y : k < 16
    · rw [mp_lt y, e22]
      by_cases y2 : k = 0
      · subst y2; rw [u2_self]; decide
      · rw [u2_ne _ _ (fun t => y2 (by omega)), ← mp_lt y, z1 k y]
        cases k with
        | zero => exact absurd rfl y2
        | succ k => rfl
    · rw [mp_dl I22 m 7 k (by omega)]
      cases k with
      | zero => omega
      | succ k => rfl
  have r1 : rsd p (pk0 1) := fun k => by
    cases k with
    | zero => show (0 : Int) ≤ 1 ∧ (1 : Int) < p; omega
    | succ k => show (0 : Int) ≤ 0 ∧ (0 : Int) < p; omega
  have hf22 : mp I22 m 0 = f := by rw [mu22.same (show ¬ 0 = 7 by omega), mu1.same (show ¬ 0 = 6 by omega), hf]
  have h622 : mp I22 m 6 = B := by rw [mu22.same (show ¬ 6 = 7 by omega), c1, hB]
  have h1922 : I22 m 19 = nI p := by rw [mu22.own, mu1.own]; exact h19
  refine ⟨_, m_reduce (r := 7) (b := 0) hm hP h1922 (by omega) (by omega) (by omega) h7 hf22 r1 rf hfd, ?_⟩
  rintro I3 L3 A3 ⟨⟨Q, S0, hS0, hQ, rS0, dS0, rQ, hcg, -⟩, mu3, rfl, rfl⟩ v28 e28
  have hf3 : mp I3 m 0 = f := (mu3.same (show ¬ (0 = 7 ∨ 0 = 9) by omega)).trans hf22
  have h63 : mp I3 m 6 = B := (mu3.same (show ¬ (6 = 7 ∨ 6 = 9) by omega)).trans h622
  have h193 : I3 m 19 = nI p := by rw [mu3.own]; exact h1922
  have hv28 : v28 = nI p := by rw [e28, h193]
  subst hv28
  have muA : MU m (fun s => s = 4 ∨ s = 5 ∨ s = 6 ∨ s = 7 ∨ s = 9) I I3 := ((mu1.mono (fun s h => by omega)).trans (mu22.mono (fun s h => by omega))).trans (mu3.mono (fun s h => by omega))
  have dB16 : dl B 16 := dl_mono dB (by omega)
  have c1S : cgf p f (pk0 1) S0 := ⟨Q, ⟨16, by rw [← hQ]; exact mp_dl I3 m 9⟩, fun k => by
    have h1 : (p : Int) ∣ pk0 1 k - (pm Q f k + S0 k) := hcg k
    show (p : Int) ∣ pk0 1 k + -1 * S0 k - pm Q f k
    rw [show pk0 1 k + -1 * S0 k - pm Q f k = pk0 1 k - (pm Q f k + S0 k) by omega]; exact h1⟩
  have start : dmP p f (pa (pm S0 (pw B p)) (pc (-1) (pw B p))) := by
    have h1 := dmP.mul c1S.symm (pw_pf ⟨16, dB16⟩ p)
    refine h1.of_cg (fun k => ?_)
    have e1 : pm (pw B p) (pa S0 (pc (-1) (pk0 1))) k = pm (pw B p) S0 k + -1 * pw B p k := by
      rw [pm_add_r (pw B p) S0 (pc (-1) (pk0 1)), pm_c_r, pm_1r]
    show (p : Int) ∣ pm S0 (pw B p) k + -1 * pw B p k - pm (pw B p) (pa S0 (pc (-1) (pk0 1))) k
    rw [e1, pmc S0]
    exact ⟨0, by omega⟩
  unfold wp_X7_raise_51
  refine ⟨fun μ I' L' A' x => ∃ S T, x = nI μ ∧ μ ≤ 997 ∧ mp I' m 7 = S ∧ mp I' m 6 = T ∧ rsd p S ∧ rsd p T ∧ dl S D ∧ dl T D ∧ dmP p f (pa (pm S (pw T μ)) (pc (-1) (pw B p))) ∧ MU m (fun s => s = 4 ∨ s = 5 ∨ s = 6 ∨ s = 7 ∨ s = 9) I I' ∧ L' = L3 ∧ A' = A3, p, ⟨S0, B, rfl, hp9, hS0, h63, rS0, rB, dS0, dB, start, muA, rfl, rfl⟩, ?_⟩
  clear hC z1 z2
  rintro μ C hC I4 L4 A4 _ ⟨S, T, rfl, hμ, hS, hT, rS, rT', dS, dT, hz, mu4, rfl, rfl⟩
  have h194 : I4 m 19 = nI p := by rw [mu4.own]; exact h19
  have hf4 : mp I4 m 0 = f := (mu4.same (show ¬ (0 = 4 ∨ 0 = 5 ∨ 0 = 6 ∨ 0 = 7 ∨ 0 = 9) by omega)).trans hf
  refine ⟨fun w => ⟨hm.1, _, m_modCopy (r := 4) (u := 7) hm (by omega) (by omega), ?_⟩, fun w => ?_⟩
  · rw [ile, li0, tI (by omega)] at w
    have : μ = 0 := by omega
    subst this
    rintro I5 L5 A5 ⟨c5, mu5, rfl, rfl⟩
    have e1 : pm S (pw T 0) = S := pm_1r S
    rw [e1] at hz
    exact ⟨⟨S, by rw [c5, hS], rS, dS, cgf.symm hz⟩, mu4.trans (mu5.mono (fun s h => by omega)), rfl, rfl⟩
  rw [ile, li0, tI (by omega)] at w
  have d7 : ∀ {g : PP}, dl g D → dl g 7 := fun h => dl_mono h (by omega)
  have hodd : (nI μ - nI μ / 2 * 2) = 1 ↔ μ % 2 = 1 := by
    rw [← Int32.toInt_inj, irem2 (by omega), show (1 : Int32).toInt = 1 from by decide]; omega
  -- the squaring
  have sq : ∀ (I5 : TI) (L5 : TL) (A5 : TA) (S' : PP), mp I5 m 7 = S' → mp I5 m 6 = T → rsd p S' → dl S' D → ((μ = 2 * (μ / 2) + 1 ∧ dmP p f (pa (pm S T) (pc (-1) S'))) ∨ (μ = 2 * (μ / 2) ∧ S' = S)) → MU m (fun s => s = 4 ∨ s = 5 ∨ s = 6 ∨ s = 7 ∨ s = 9) I I5 → L5 = L4 → A5 = A4 → wp_X7_raise_72 K m C I5 L5 A5 (nI μ) (fun I' L' A' => (∃ T, mp I' m 4 = T ∧ rsd p T ∧ dl T D ∧ cgf p f (pw B p) T) ∧ MU m (fun s => s = 4 ∨ s = 5 ∨ s = 6 ∨ s = 7 ∨ s = 9) I I' ∧ L' = L4 ∧ A' = A4) := by
    intro I5 L5 A5 S' h5 h6 rS' dS' hs mu5 hL5 hA5
    subst hL5 hA5
    unfold wp_X7_raise_72
    have h195 : I5 m 19 = nI p := by rw [mu5.own]; exact h19
    have hf5 : mp I5 m 0 = f := (mu5.same (show ¬ (0 = 4 ∨ 0 = 5 ∨ 0 = 6 ∨ 0 = 7 ∨ 0 = 9) by omega)).trans hf
    refine ⟨hm.1, _, m_modTimes (t := 6) (a := 6) (b := 6) hm hP h195 (by omega) (by omega) (by omega) (by omega) (by omega) (by omega) h6 h6 hf5 rT' rT' rf (d7 dT) (d7 dT) hfd, ?_⟩
    rintro I6 L6 A6 ⟨⟨T', hT', rT'', dT', ht⟩, mu6, rfl, rfl⟩ v7 e7
    have h76 : mp I6 m 7 = S' := (mu6.same (show ¬ (7 = 6 ∨ 7 = 5 ∨ 7 = 9) by omega)).trans h5
    rw [e7, idiv2 (by omega)]
    refine hC (μ / 2) _ _ _ _ (by omega) ⟨S', T', rfl, by omega, h76, hT', rS', rT'', dS', dT', ?_, mu5.trans (mu6.mono (fun s h => by omega)), rfl, rfl⟩
    exact sq_step (p := p) (f := f) (mkP S D dS) (mkP T D dT) (mkP S' D dS') (mkP T' D dT') ⟨pw B p, pw_pf ⟨16, dB16⟩ p⟩ μ (μ / 2) hz ht (by
      rcases hs with ⟨a, b⟩ | ⟨a, b⟩
      · exact Or.inl ⟨a, b⟩
      · subst b; exact Or.inr ⟨a, rfl⟩)
  rw [hodd]
  refine ⟨fun y => ⟨hm.1, _, m_modTimes (t := 7) (a := 7) (b := 6) hm hP h194 (by omega) (by omega) (by omega) (by omega) (by omega) (by omega) hS hT hf4 rS rT' rf (d7 dS) (d7 dT) hfd, ?_⟩, fun y => sq I4 L4 A4 S hS hT rS dS (Or.inr ⟨by omega, rfl⟩) mu4 rfl rfl⟩
  rintro I5 L5 A5 ⟨⟨S', hS', rS', dS', hss⟩, mu5, rfl, rfl⟩
  exact sq I5 L5 A5 S' hS' ((mu5.same (show ¬ (6 = 7 ∨ 6 = 5 ∨ 6 = 9) by omega)).trans hT) rS' dS' (Or.inl ⟨by omega, hss⟩) (mu4.trans (mu5.mono (fun s h => by omega))) rfl rfl
/-- a prime that pattern takes -/
def okPr (i : Int32) : Prop := 2 ≤ i.toInt ∧ i.toInt ≤ 997 ∧ Pr i.toInt
theorem not_pr {n k : Nat} (h1 : 1 < k) (h2 : k < n) (hd : k ∣ n) : ¬ Pr (n : Int) := fun h => by
  obtain ⟨j, rfl⟩ := hd
  have hk : ((k * j : Nat) : Int) ∣ (k : Int) * j := by rw [Int.natCast_mul]; exact Int.dvd_refl _
  have hj0 : 0 < j := by
    rcases Nat.eq_zero_or_pos j with w | w
    · rw [w] at h2; omega
    · exact w
  rcases h.2 _ _ hk with w | w
  · have := Nat.le_of_dvd (by omega) (Int.natCast_dvd_natCast.mp w); omega
  · have h3 := Nat.le_of_dvd hj0 (Int.natCast_dvd_natCast.mp w)
    have h4 : 2 * j ≤ k * j := Nat.mul_le_mul_right _ h1
    omega
theorem m_isPrime {i : Int32} : ConI K yX7_isPrime wsX7_isPrime 0 0 I L A [.int i] (fun v I' L' A' => ((v = 1 ∧ okPr i) ∨ (v = 0 ∧ ¬ okPr i)) ∧ I' = I ∧ L' = L ∧ A' = A) := by
  have l2 : (2 : Int32).toInt = 2 := by decide
  have l997 : (997 : Int32).toInt = 997 := by decide
  have bad : (¬ (2 ≤ i.toInt ∧ i.toInt ≤ 997)) → wp_X7_isPrime_20 K i I L A 0 2 (fun v I' L' A' => ((v = 1 ∧ okPr i) ∨ (v = 0 ∧ ¬ okPr i)) ∧ I' = I ∧ L' = L ∧ A' = A) := fun hn => by
    unfold wp_X7_isPrime_20
    refine ⟨fun _ I' L' A' x1 _ => x1 = 0 ∧ I' = I ∧ L' = L ∧ A' = A, 0, ⟨rfl, rfl, rfl, rfl⟩, ?_⟩
    rintro μ C hC I' L' A' _ x2 ⟨rfl, rfl, rfl, rfl⟩
    have hno : ¬ okPr i := fun h => hn ⟨h.1, h.2.1⟩
    exact ⟨fun _ => ⟨Or.inl rfl, Or.inr ⟨rfl, hno⟩, rfl, rfl, rfl⟩, fun _ => ⟨fun _ => ⟨Or.inl rfl, Or.inr ⟨rfl, hno⟩, rfl, rfl, rfl⟩, fun z => absurd rfl z⟩⟩
  apply w_X7_isPrime
  unfold wp_X7_isPrime
  refine ⟨fun z => bad (fun h => by rw [ilt, l2] at z; omega), fun z => ⟨fun z2 => bad (fun h => by rw [ilt, l997] at z2; omega), fun z2 => ?_⟩⟩
  rw [ilt, l2] at z
  rw [ilt, l997] at z2
  obtain ⟨n, hn⟩ : ∃ n : Nat, i.toInt = n := ⟨i.toInt.toNat, by omega⟩
  have hi : i = nI n := eqn hn
  subst hi
  have hok : okPr (nI n) ↔ Pr (n : Int) := by unfold okPr; rw [hn]; exact ⟨fun h => h.2.2, fun h => ⟨by omega, by omega, h⟩⟩
  unfold wp_X7_isPrime_20
  refine ⟨fun μ I' L' A' x1 x2 => ∃ d, d + μ = 34 ∧ 2 ≤ d ∧ x2 = nI d ∧ ((x1 = 1 ∧ ∀ k, 1 < k → k < d → ¬ k ∣ n) ∨ (x1 = 0 ∧ ¬ Pr (n : Int))) ∧ I' = I ∧ L' = L ∧ A' = A, 32, ⟨2, by omega, by omega, rfl, Or.inl ⟨rfl, fun k h1 h2 => by omega⟩, rfl, rfl, rfl⟩, ?_⟩
  rintro μ C hC I' L' A' x1 _ ⟨d, hd, hd2, rfl, hx, rfl, rfl, rfl⟩
  have hdd : d * d ≤ 34 * 34 := Nat.mul_le_mul (by omega) (by omega)
  have hsq : (nI d * nI d).toInt = ((d * d : Nat) : Int) := imul_n (tI (by omega)) (tI (by omega)) (by omega)
  have fin : (x1 = 0 ∨ x1 = 1) := by rcases hx with ⟨h, -⟩ | ⟨h, -⟩; exact Or.inr h; exact Or.inl h
  refine ⟨fun w => ⟨fin, ?_, rfl, rfl, rfl⟩, fun w => ⟨fun y => ⟨fin, ?_, rfl, rfl, rfl⟩, fun y => ?_⟩⟩
  · rw [ilt, hsq, hn] at w
    rcases hx with ⟨h1, h2⟩ | ⟨h1, h2⟩
    · exact Or.inl ⟨h1, hok.mpr (pr_trial (B := d) (by omega) (by omega) h2)⟩
    · exact Or.inr ⟨h1, fun h => h2 (hok.mp h)⟩
  · rcases hx with ⟨h1, h2⟩ | ⟨h1, h2⟩
    · rw [h1] at y; exact absurd y (by decide)
    · exact Or.inr ⟨h1, fun h => h2 (hok.mp h)⟩
  · rw [ilt, hsq, hn] at w
    have hd31 : d ≤ 31 := by
      rcases Nat.lt_or_ge 31 d with t | t
      · have : 32 * 32 ≤ d * d := Nat.mul_le_mul t t
        omega
      · exact t
    obtain ⟨hr, hne⟩ := irem_n hn (tI (k := d) (by omega)) (by omega)
    have hml := Nat.mod_lt n (show 0 < d by omega)
    have hz : nI (n % d) = 0 ↔ d ∣ n := by
      rw [i0z, tI (by omega), Nat.dvd_iff_mod_eq_zero]; omega
    rw [hr, hz]
    refine ⟨hne, fun t v ev => ?_, fun t v ev => ?_⟩
    · have hdn : d < n := by
        have : 2 * d ≤ d * d := Nat.mul_le_mul_right _ hd2
        omega
      exact hC (μ - 1) _ _ _ _ _ (by omega) ⟨d + 1, by omega, by omega, by rw [ev, sI], Or.inr ⟨rfl, not_pr (by omega) hdn t⟩, rfl, rfl, rfl⟩
    · refine hC (μ - 1) _ _ _ _ _ (by omega) ⟨d + 1, by omega, by omega, by rw [ev, sI], Or.inl ⟨rfl, fun k h1 h2 => ?_⟩, rfl, rfl, rfl⟩
      rcases hx with ⟨-, h4⟩ | ⟨h4, -⟩
      · by_cases u : k = d
        · rw [u]; exact t
        · exact h4 k h1 (by omega)
      · exact absurd h4 y
end
