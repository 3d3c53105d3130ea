/-! BOTH SIDES, call by call: get, parts, pattern, galois, part, times, content, degree -/
section
variable {K : Cx} {I : TI} {L : TL} {A : TA}
theorem j_get {x : Nat} (hb : ShB K x) (hG : Gd x I L A) (a1 a2 : Int32) : JT K x (oS a1 ∧ oK a2) yX6_get wsX6_get 2 60 yX7_get wsX7_get 1 22 [.int a1, .int a2] I L A (Gd x) := by
  refine jt_rel (ok' := okS a1 ∧ okI a2 0 6) (rel := fun P v P' => v.toInt = P (ix a1) (ix a2) ∧ P' = P) ?_ (fun P _ v P' v' P'' _ h h' => ⟨iext (h.1.trans h'.1.symm), h.2.trans h'.2.symm⟩) hG (fun P hs hk => ?_) (fun P I1 L1 A1 hs => ?_)
  · rw [← oS_ok, ← oK_ok]
  · obtain ⟨e1, k1⟩ := oS_ix hk.1
    obtain ⟨e2, k2⟩ := oK_ix hk.2
    have := s_get hb.1.1 hs k1 k2
    rw [← e1, ← e2] at this
    exact ConI.mono this (fun v I' L' A' h => by
      obtain ⟨h1, rfl, rfl, rfl⟩ := h
      exact ⟨⟨P, ⟨h1, rfl⟩, hs⟩, fun y _ _ => ⟨rfl, rfl⟩, rfl⟩)
  · refine ConI.mono (m_get (i := a1) (k := a2) hb.2.1 hs) (fun v I' L' A' h => ?_)
    rcases h with ⟨hk, h1, rfl, rfl, rfl⟩ | h
    · exact Or.inl ⟨hk, ⟨_, ⟨h1, rfl⟩, hs⟩, u2_self _ _ _ _, ⟨fun y hy => ⟨u2_off _ _ (by omega), rfl⟩, u2_self _ _ _ _, TF.of (fun k hk => u2_ne _ _ (fun e => hk e.2)) (fun y a b => u2_off _ _ (by omega)) rfl⟩, rfl⟩
    · exact Or.inr h
theorem j_galois {x : Nat} (hb : ShB K x) (hG : Gd x I L A) (a1 : Int32) : JT K x (oS a1) yX6_galois wsX6_galois 7 182 yX7_galois wsX7_galois 7 170 [.int a1] I L A (Gd x) := by
  obtain ⟨P, c, q, n, ct, l, hd, hr, hq7⟩ := id hG
  refine ⟨fun v I' L' A' => Slots x I' L' A' P ∧ ArrD x A' ∧ (∀ y, y ≠ x + 110 → A' y = A y) ∧ (∀ y, ¬ (x + 40 ≤ y ∧ y < x + 124) → I' y = I y ∧ L' y = L y) ∧ galA (P (ix a1)) v, fun hk => ?_, fun v I1 L1 A1 hq => ?_⟩
  · obtain ⟨e1, k1⟩ := oS_ix hk
    have := s_galois hb.1 hd.1 hd.2.1 k1
    rw [← e1] at this
    exact this
  · have hr1 : GR (x + 124) P c q n ct l I1 L1 := by
      rcases hq with ⟨-, -, r, L0, ⟨-, -, -, hF, -⟩, e1⟩ | ⟨-, -, e1, e2, e3⟩
      · refine hr.keep (fun y a b => ?_)
        have := hF y (by omega)
        exact ⟨this.1, by rw [e1, u2_off _ _ (by omega)]; exact this.2⟩
      · rw [e1, e2]; exact hr
    refine ⟨_, m_galois (s := a1) hb.2.1 hr1.1, fun r I2 L2 A2 hq2 => ?_⟩
    rcases hq with ⟨hk, rfl, r0, L0, ⟨hs1, hA1, hAy, hF, hg⟩, e1⟩ | ⟨hk, rfl, rfl, rfl, rfl⟩
    · rcases hq2 with ⟨hk', th, hs2, hF2, hT, rfl, hg2⟩ | ⟨hk', -⟩
      · have hT0 := hd.2.2.1.at hd.2.1 (I' := I1) (L' := L0) (fun y a b => hF y (by omega))
        have hd1 : GD x P c q n ct l I1 L0 A2 := ⟨hs1, hA1, ⟨hT0.1.arr (hAy _ (by omega)), hT0.2⟩, hd.2.2.2.at (by rw [(hF x (by omega)).1]) (hF (x + 39) (by omega)).1⟩
        have ev := galois_same (hd.1 _ (oS_ix hk).2).2.2.2 hg2 hg
        subst ev
        have := both hd1 e1 hF2 rfl (hr1.tf hs2 hT) hq7
        exact ⟨this.1, th, fun _ => this.2⟩
      · exact absurd (oS_ok.mp hk) hk'
    · rcases hq2 with ⟨hk', -⟩ | ⟨hk', e1, e2, e3⟩
      · exact absurd (oS_ok.mpr hk') hk
      · have := both_no hG e1 e2 e3
        exact ⟨this.1, this.2, fun z => absurd z (by decide)⟩
theorem RTd.congr {m c : Nat} {q q' : Nat → PP} {n n' : Nat → Nat} {ct : Int} (h : RTd m I L c q' n' ct) (e : ∀ i, i < c → q i = q' i ∧ n i = n' i) : RTd m I L c q n ct := by
  obtain ⟨h1, h2, h3, h4⟩ := h
  exact ⟨h1, h2, h3, fun i hi => by rw [(e i hi).1, (e i hi).2]; exact h4 i hi⟩
theorem j_parts {x : Nat} (hb : ShB K x) (hG : Gd x I L A) (a1 : Int32) : JT K x (oS a1) yX6_parts wsX6_parts 7 182 yX7_parts wsX7_parts 7 170 [.int a1] I L A (Gd x) := by
  obtain ⟨P, c, q, n, ct, l, hd, hr, hq7⟩ := id hG
  refine ⟨fun v I' L' A' => Slots x I' L' A' P ∧ ArrD x A' ∧ (∀ y, ¬ (x + 24 ≤ y ∧ y < x + 39) → ¬ (x + 40 ≤ y ∧ y < x + 124) → I' y = I y ∧ L' y = L y) ∧ ((P (ix a1) = p0 ∧ v = -3 ∧ I' = I ∧ L' = L ∧ A' = A) ∨ (P (ix a1) ≠ p0 ∧ ∃ c q n, v = nI c ∧ isPts (P (ix a1)) c q n (cnt (P (ix a1))) ∧ TolD x I' L' A' c q n (cnt (P (ix a1))))), fun hk => ?_, fun v I1 L1 A1 hq => ?_⟩
  · obtain ⟨e1, k1⟩ := oS_ix hk
    have := s_parts hb.1 hd.1 hd.2.1 k1
    rw [← e1] at this
    exact this
  · have hr1 : GR (x + 124) P c q n ct l I1 L1 := by
      rcases hq with ⟨-, -, r, L0, ⟨-, -, hF, -⟩, e1⟩ | ⟨-, -, e1, e2, e3⟩
      · refine hr.keep (fun y a b => ?_)
        have := hF y (by omega) (by omega)
        exact ⟨this.1, by rw [e1, u2_off _ _ (by omega)]; exact this.2⟩
      · rw [e1, e2]; exact hr
    refine ⟨_, m_parts (s := a1) hb.2.1 hr1.1, fun r I2 L2 A2 hq2 => ?_⟩
    rcases hq with ⟨hk, rfl, r0, L0, ⟨hs1, hA1, hF, hc⟩, e1⟩ | ⟨hk, rfl, rfl, rfl, rfl⟩
    · rcases hq2 with ⟨hk', th, hs2, hF2, h11, h6, rfl, hc2⟩ | ⟨hk', -⟩
      · have hsm := (hd.1 _ (oS_ix hk).2).2.2.2
        have hPat := hd.2.2.2.at (I' := I1) (by rw [(hF x (by omega) (by omega)).1]) (hF (x + 39) (by omega) (by omega)).1
        have hRP : RPl (x + 124) I2 l := by
          obtain ⟨g1, g2, g3⟩ := hr1.2.2
          exact ⟨by rw [h11]; exact g1, g2, fun i hi => by rw [h6]; exact g3 i hi⟩
        rcases hc with ⟨z, ev, rfl, rfl, rfl⟩ | ⟨z, c', q', n', ev, hp, hT⟩ <;> rcases hc2 with ⟨z2, ev2, hT2⟩ | ⟨z2, c2, q2, n2, ev2, hp2, hR⟩
        · have := both (⟨hs1, hA1, hd.2.2.1, hPat⟩ : GD x P c q n ct l I1 L0 A2) e1 hF2 rfl ⟨hs2, hr1.2.1.tf hT2, hRP⟩ hq7
          exact ⟨this.1, th, fun _ => by rw [this.2, ev, ev2]⟩
        · exact absurd z z2
        · exact absurd z2 z
        · obtain ⟨f0, p1, p2, p3, -⟩ := hp
          obtain ⟨f0', p1', p2', p3', -⟩ := hp2
          have ef := pp_uniq ⟨7, hsm.1⟩ p1 p1'
          subst ef
          obtain ⟨ec, eq⟩ := fac_unique p2 p3 p2' p3'
          subst ec
          have := both (⟨hs1, hA1, hT, hPat⟩ : GD x P c' q' n' (cnt (P (ix a1))) l I1 L0 A2) e1 hF2 rfl ⟨hs2, hR.congr eq, hRP⟩ (fun i hi => (body_bd (pp_body hsm z p1) (p2.pf i hi) (p2.dvd1 hi)).1)
          exact ⟨this.1, th, fun _ => by rw [this.2, ev, ev2]⟩
      · exact absurd (oS_ok.mp hk) hk'
    · rcases hq2 with ⟨hk', -⟩ | ⟨hk', e1, e2, e3⟩
      · exact absurd (oS_ok.mpr hk') hk
      · have := both_no hG e1 e2 e3
        exact ⟨this.1, this.2, fun z => absurd z (by decide)⟩
end
