/-! BOTH SIDES, call by call: pattern, part, times, content, degree -/
section
variable {K : Cx} {I : TI} {L : TL} {A : TA}
theorem asc_md {p : Nat} (hp : Pr (p : Int)) {f F : PP} {d : Nat} (hf : Pf f) (hd : md p f d) (h : asc p f F) : ∃ r, md p F r := by
  obtain ⟨s, hs, hc⟩ := h.1
  have hn : ¬ al p F := h.nal (fun z => hd.1 (z d))
  have hn2 : ¬ al p (pm s f) := fun z => hn (fun k => by
    have h1 := hc k
    have h2 := z k
    have := Int.dvd_add h1 h2
    rwa [Int.sub_add_cancel] at this)
  obtain ⟨e, he⟩ := md_of (hs.mul hf) hn2
  refine ⟨e, fun z => he.1 ?_, fun k hk => ?_⟩
  · have h1 := Int.dvd_sub z (hc e)
    rwa [show F e - (F e - pm s f e) = pm s f e by omega] at h1
  · have := Int.dvd_add (hc k) (he.2 k hk)
    rwa [Int.sub_add_cancel] at this
theorem patA_u {p : Nat} (hp : Pr (p : Int)) {f : PP} (hf : dl f 7) {v v' : Int32} {l l' : List Nat} (h : patA p f v l) (h' : patA p f v' l') : v = v' ∧ l = l' := by
  have hpf : Pf f := ⟨7, hf⟩
  have big : ∀ d, 0 < d → dgI f d → ¬ lnP f 7 ≤ 1 := fun d h0 hd hl => by
    rcases lnP_res hf with ⟨-, z⟩ | ⟨e, h1, h2, -⟩
    · exact hd.1 (by rw [z]; rfl)
    · have := hd.uniq h2; omega
  have mix : ∀ d d', dgI f d → dgI f d' → ((p : Int) ∣ f d ∨ (¬ (p : Int) ∣ f d ∧ ∃ F DF G e, asc p f F ∧ asc p (drv f) DF ∧ GcdM p G F DF ∧ md p G e ∧ 0 < e)) → ¬ (p : Int) ∣ f d' → (∃ F DF G, asc p f F ∧ asc p (drv f) DF ∧ GcdM p G F DF ∧ md p G 0) → False := by
    intro d d' hd hd' h1 h2 h3
    have ed := hd.uniq hd'
    subst ed
    rcases h1 with w | ⟨-, F, DF, G, e, g1, g2, g3, g4, g5⟩
    · exact h2 w
    · obtain ⟨F', DF', G', k1, k2, k3, k4⟩ := h3
      have := (GcdM.asc g3 k3 (g1.symm.trans k1) (g2.symm.trans k2)).deg hp g4 k4
      omega
  rcases h with ⟨a1, a2, a3⟩ | ⟨d, a1, a2, a3, a4, a5⟩ | ⟨d, a1, a2, a3, a4, a5, a6⟩ <;> rcases h' with ⟨b1, b2, b3⟩ | ⟨e, b1, b2, b3, b4, b5⟩ | ⟨e, b1, b2, b3, b4, b5, b6⟩
  · exact ⟨a2.trans b2.symm, a3.trans b3.symm⟩
  · exact absurd a1 (big e b1 b2)
  · exact absurd a1 (big e b1 b2)
  · exact absurd b1 (big d a1 a2)
  · exact ⟨a4.trans b4.symm, a5.trans b5.symm⟩
  · exact (mix d e a2 b2 a3 b3 b4).elim
  · exact absurd b1 (big d a1 a2)
  · exact (mix e d b2 a2 b3 a3 a4).elim
  · obtain ⟨F, n, R, g1, g2, g3⟩ := a5
    obtain ⟨F', n', R', k1, k2, k3⟩ := b5
    have hmd : md p f d := ⟨a3, fun k hk => by rw [a2.2 k hk]; exact Int.dvd_zero _⟩
    obtain ⟨r, hr⟩ := asc_md hp hpf hmd g1
    have el := Chn.uniq hp hr (g1.symm.trans k1) g2 k2 g3 k3
    subst el
    exact ⟨a6.trans b6.symm, rfl⟩
theorem sqr (n : Nat) : ∃ B, B * B ≤ n ∧ n < (B + 1) * (B + 1) := by
  induction n with
  | zero => exact ⟨0, by decide, by decide⟩
  | succ n ih =>
    obtain ⟨B, h1, h2⟩ := ih
    rcases Nat.lt_or_ge (n + 1) ((B + 1) * (B + 1)) with w | w
    · exact ⟨B, by omega, w⟩
    · refine ⟨B + 1, w, ?_⟩
      have : (B + 1 + 1) * (B + 1 + 1) = (B + 1) * (B + 1) + 2 * (B + 1) + 1 := by grind
      omega
theorem oP_ok {a : Int32} : oP a ↔ okPr a := by
  constructor
  · rintro ⟨q, rfl, h1, h2, h3⟩
    refine ⟨by rw [tI (by omega)]; omega, by rw [tI (by omega)]; omega, ?_⟩
    rw [tI (by omega)]
    obtain ⟨B, s1, s2⟩ := sqr q
    exact pr_trial (B := B + 1) (by omega) s2 (fun k k1 k2 kd => h3 k (by omega) (Nat.le_trans (Nat.mul_le_mul (by omega) (by omega)) s1) (Nat.mod_eq_zero_of_dvd kd))
  · intro h
    have h0 : a.toInt = ((a.toInt.toNat : Nat) : Int) := by have := h.1; omega
    refine ⟨a.toInt.toNat, eqn h0, by have := h.1; omega, by have := h.2.1; omega, fun d d1 d2 dm => ?_⟩
    have hp := h.2.2
    rw [h0] at hp
    refine not_pr (k := d) (by omega) ?_ (Nat.dvd_of_mod_eq_zero dm) hp
    have : 2 * d ≤ d * d := Nat.mul_le_mul_right d d1
    omega
theorem j_pattern {x : Nat} (hb : ShB K x) (hG : Gd x I L A) (a1 a2 : Int32) : JT K x (oS a1 ∧ oP a2) yX6_pattern wsX6_pattern 5 139 yX7_pattern wsX7_pattern 4 97 [.int a1, .int a2] I L A (Gd x) := by
  obtain ⟨P, c, q, n, ct, l, hd, hr, hq7⟩ := id hG
  refine ⟨fun v I' L' A' => (∃ l, patA (ix a2) (P (ix a1)) v l ∧ PatD x I' l) ∧ Slots x I' L' A P ∧ (∀ y, y ≠ x → y ≠ x + 39 → ¬ (x + 41 ≤ y ∧ y < x + 82) → I' y = I y ∧ L' y = L y) ∧ (∀ k, k ≠ 6 → I' x k = I x k) ∧ L' x = L x ∧ A' = A, fun hk => ?_, fun v I1 L1 A1 hq => ?_⟩
  · obtain ⟨e1, k1⟩ := oS_ix hk.1
    have h2 := oP_ok.mp hk.2
    have h0 : a2.toInt = ((a2.toInt.toNat : Nat) : Int) := by have := h2.1; omega
    have e2 : a2 = nI (ix a2) := by rw [ix_of h0]; exact eqn h0
    have l2 : ix a2 < 2147483648 := by rw [ix_of h0]; have := h2.2.1; omega
    have := s_pattern (q := ix a2) hb.1.1 hb.1.2.1 hb.1.2.2.1 hd.2.1.2.2 hd.1 k1 (by rw [← e2]; exact h2) l2
    rw [← e1, ← e2] at this
    exact this
  · have hr1 : GR (x + 124) P c q n ct l I1 L1 := by
      rcases hq with ⟨-, -, r, L0, ⟨-, -, hF, -⟩, e1⟩ | ⟨-, -, e1, e2, e3⟩
      · refine hr.keep (fun y a b => ?_)
        have := hF y (by omega) (by omega) (by omega)
        exact ⟨this.1, by rw [e1, u2_off _ _ (by omega)]; exact this.2⟩
      · rw [e1, e2]; exact hr
    refine ⟨_, m_pattern (s := a1) (q := a2) hb.2.1 hr1.1, fun r I2 L2 A2 hq2 => ?_⟩
    rcases hq with ⟨hk, rfl, r0, L0, ⟨⟨l1, hp1, hP1⟩, hs1, hF, hx6, hLx, rfl⟩, e1⟩ | ⟨hk, rfl, rfl, rfl, rfl⟩
    · rcases hq2 with ⟨hk', th, rfl, rfl, hF2, l2, hp2, hP2⟩ | ⟨hk', -⟩
      · have hsm := (hd.1 _ (oS_ix hk.1).2).2.2.2
        have hpr : Pr ((ix a2 : Nat) : Int) := by
          have h2 := oP_ok.mp hk.2
          have h0 : a2.toInt = ((a2.toInt.toNat : Nat) : Int) := by have := h2.1; omega
          rw [ix_of h0, ← h0]; exact h2.2.2
        obtain ⟨ev, el⟩ := patA_u hpr hsm.1 hp1 hp2
        subst ev; subst el
        have hd1 : GD x P c q n ct l1 I1 L0 A2 := ⟨hs1, hd.2.1, hd.2.2.1.at hd.2.1 (fun y a b => hF y (by omega) (by omega) (by omega)), hP1⟩
        have hRT : RTd (x + 124) I2 L2 c q n ct := by
          obtain ⟨g1, g2, g3, g4⟩ := hr1.2.1
          refine ⟨by rw [hF2.2 7 (by omega) (by omega) (by omega)]; exact g1, g2, by rw [hF2.2 8 (by omega) (by omega) (by omega)]; exact g3, fun i hi => ?_⟩
          rw [hF2.1 (x + 124 + 5) (by omega) (by omega) (by omega)]; exact g4 i hi
        have := both hd1 e1 (fun y hy => ⟨hF2.1 y (by omega) (by omega) (by omega), rfl⟩) rfl ⟨hr1.1, hRT, hP2⟩ hq7
        exact ⟨this.1, th, fun _ => this.2⟩
      · exact absurd ⟨oS_ok.mp hk.1, oP_ok.mp hk.2⟩ hk'
    · rcases hq2 with ⟨hk', -⟩ | ⟨hk', e1, e2, e3⟩
      · exact absurd ⟨oS_ok.mpr hk'.1, oP_ok.mpr hk'.2⟩ hk
      · have := both_no hG e1 e2 e3
        exact ⟨this.1, this.2, fun z => absurd z (by decide)⟩
/-- a call that changes nothing but the reference's thrown -/
theorem Gd.thr0 {x : Nat} {I2 : TI} {L2 : TL} {A2 : TA} (h : Gd x I L A) (e1 : I2 = u2 I (x + 124) 0 0) (e2 : L2 = L) (e3 : A2 = A) : Gd x I2 L2 A2 := by
  subst e1; subst e2; subst e3
  obtain ⟨P, c, q, n, ct, l, hd, hr, h7⟩ := h
  exact ⟨P, c, q, n, ct, l, hd.keep (fun y a b => ⟨u2_off _ _ (by omega), rfl⟩), hr.thr 0, h7⟩
theorem lx {a b : Int64} (h : a.toInt = b.toInt) : a = b := Int64.toInt_inj.mp h
theorem nI_at {c j : Nat} {i : Int32} (hj : j < c) (hc : c ≤ 6) (e : i = nI j) : 0 ≤ i.toInt ∧ i.toInt < c ∧ ix i = j := by
  subst e
  rw [tI (by omega), ixn (by omega)]
  omega
theorem at_nI {c : Nat} {i : Int32} (h : 0 ≤ i.toInt) (h' : i.toInt < c) : ix i < c ∧ i = nI (ix i) := by
  have h0 : i.toInt = ((i.toInt.toNat : Nat) : Int) := by omega
  rw [ix_of h0]
  exact ⟨by omega, eqn h0⟩
theorem j_times {x : Nat} (hb : ShB K x) (hG : Gd x I L A) (a1 : Int32) : JPi K x yX6_times wsX6_times 1 21 yX7_times wsX7_times 1 22 [.int a1] I L A (Gd x) := by
  obtain ⟨P, c, q, n, ct, l, hd, hr, hq7⟩ := id hG
  refine ⟨_, s_times hb.1 hd.2.2.1, ?_⟩
  rintro v I1 L1 A1 ⟨hv, rfl, rfl, rfl⟩
  refine ⟨_, m_times hb.2.1 hr.2.1, ?_⟩
  rintro r I2 L2 A2 ⟨hr2, e1, e2, e3⟩
  refine ⟨hG.thr0 e1 e2 e3, ?_⟩
  have hc := hr.2.1.2.1
  rcases hv with ⟨h1, h2, e⟩ | ⟨h1, e⟩ <;> rcases hr2 with ⟨j, h3, h4, e'⟩ | ⟨h3, e'⟩
  · rw [e, e', (nI_at h3 hc h4).2.2]
  · exact absurd ⟨_, (at_nI h1 h2).1, (at_nI h1 h2).2⟩ h3
  · exact absurd ⟨(nI_at h3 hc h4).1, (nI_at h3 hc h4).2.1⟩ h1
  · rw [e, e']
theorem j_content {x : Nat} (hb : ShB K x) (hG : Gd x I L A) : JPi K x yX6_content wsX6_content 0 0 yX7_content wsX7_content 0 0 [] I L A (Gd x) := by
  obtain ⟨P, c, q, n, ct, l, hd, hr, hq7⟩ := id hG
  refine ⟨_, s_content hb.1 hd.2.2.1, ?_⟩
  rintro v I1 L1 A1 ⟨hv, rfl, rfl, rfl⟩
  refine ⟨_, m_content hb.2.1 hr.2.1, ?_⟩
  rintro r I2 L2 A2 ⟨hr2, e1, e2, e3⟩
  exact ⟨hG.thr0 e1 e2 e3, iext (hv.trans hr2.symm)⟩
theorem j_degree {x : Nat} (hb : ShB K x) (hG : Gd x I L A) (a1 : Int32) : JPi K x yX6_degree wsX6_degree 0 0 yX7_degree wsX7_degree 1 22 [.int a1] I L A (Gd x) := by
  obtain ⟨P, c, q, n, ct, l, hd, hr, hq7⟩ := id hG
  refine ⟨_, s_degree hb.1.1.1 hb.1.2.1 hd.2.2.2, ?_⟩
  rintro v I1 L1 A1 ⟨hv, rfl, rfl, rfl⟩
  refine ⟨_, m_degree hb.2.1 hr.2.2, ?_⟩
  rintro r I2 L2 A2 ⟨hr2, e1, e2, e3⟩
  refine ⟨hG.thr0 e1 e2 e3, ?_⟩
  have hc : l.length ≤ 6 := hr.2.2.2.1
  rcases hv with ⟨h1, h2, e⟩ | ⟨h1, e⟩ <;> rcases hr2 with ⟨j, h3, h4, e'⟩ | ⟨h3, e'⟩
  · rw [e, e', (nI_at h3 hc h4).2.2]
  · exact absurd ⟨_, (at_nI h1 h2).1, (at_nI h1 h2).2⟩ h3
  · have := nI_at h3 hc h4; omega
  · rw [e, e']
theorem j_part {x : Nat} (hb : ShB K x) (hG : Gd x I L A) (a1 a2 : Int32) : JPl K x yX6_part wsX6_part 1 21 yX7_part wsX7_part 1 22 [.int a1, .int a2] I L A (Gd x) := by
  obtain ⟨P, c, q, n, ct, l, hd, hr, hq7⟩ := id hG
  refine ⟨_, s_part hb.1 hd.2.1 hd.2.2.1, ?_⟩
  rintro v I1 L1 A1 ⟨hv, rfl, rfl, rfl⟩
  refine ⟨_, m_part hb.2.1 hr.2.1, ?_⟩
  rintro r I2 L2 A2 ⟨hr2, e1, e2, e3⟩
  refine ⟨hG.thr0 e1 e2 e3, ?_⟩
  have hc := hr.2.1.2.1
  rcases hv with ⟨h1, h2, h2', e⟩ | ⟨h1, e⟩ <;> rcases hr2 with ⟨j, k, h3, h3', h4, h4', e'⟩ | ⟨h3, e'⟩
  · refine lx ?_
    rw [e, e', (nI_at h3 hc h4).2.2, h4', ixn (by omega)]
  · have g1 := at_nI h1 h2
    have h0 : a2.toInt = ((a2.toInt.toNat : Nat) : Int) := by omega
    refine lx ?_
    rw [e, e']
    refine hq7 _ g1.1 _ ?_
    rcases Nat.lt_or_ge (ix a2) 7 with w | w
    · exact absurd ⟨_, _, g1.1, w, g1.2, by rw [ix_of h0]; exact eqn h0⟩ h3
    · exact w
  · have g1 := nI_at h3 hc h4
    exact absurd ⟨g1.1, g1.2.1, by rw [h4', tI (by omega)]; omega⟩ h1
  · rw [e, e']
end
