/-! THE SPLITTER: groupByDegrees, its loop -/
section
variable {K : Cx} {I : TI} {L : TL} {A : TA}
theorem gcdm_xq {p d : Nat} {G H R F : PP} (hH : cgf p F (xq p d) H) (hRF : dmP p R F) (h : GcdM p G H R) : GcdM p G (xq p d) R := GcdM.sw (xq_pf p d) (gcdm_comm h) (hH.of_dv hRF)
theorem Fr.of_ch {s : Nat} {S : Nat → Prop} {I' : TI} {L' : TL} (h : ChR S I I' L L') (hS : ∀ r, S r → s + 1 ≤ r ∧ r + 1 < s + 41) : Fr s (s + 41) I I' L L' := (h.fab hS).mono (by omega) (by omega)
set_option maxHeartbeats 4000000 in
theorem s_group_loop {s p n E : Nat} {F R : PP} {g : Nat → Nat} {Q : Nat → PF} {Z : TI → TL → TA → Prop} (hs : isX5 K s) (hA : AX5 A s) (hP : Pm p) (hn0 : 0 < n) (hn6 : n ≤ 6) (rF : rsd p F) (lF : F n = 1) (h : GI s p n F I L 0 E R g Q) (hZ : ∀ (I' : TI) (L' : TL) (g : Nat → Nat) (Q : Nat → PF), Grp s p n F I' L' g Q → Fr s (s + 41) I I' L L' → Z I' L' A) : wp_X5_groupByDegrees_49 K s I L A 1 Z := by
  have hp1 := hP.1.1
  have hp2 := hP.2
  unfold wp_X5_groupByDegrees_49
  refine ⟨fun μ I' L' A' x => ∃ k E R g Q, k + μ = 3 ∧ x = nI (k + 1) ∧ GI s p n F I' L' k E R g Q ∧ Fr s (s + 41) I I' L L' ∧ A' = A, 3, ⟨0, E, R, g, Q, rfl, rfl, h, Fr.refl _ _ _ _, rfl⟩, ?_⟩
  rintro μ C hC I0 L0 A0 _ ⟨k, E, R, g, Q, hkμ, rfl, h, fr0, rfl⟩
  have hgi := h
  obtain ⟨g1, g2, g3, g4, g5, g6, g7, g8, g9, g10, g11, g12, g13, g14, g15, g16⟩ := h
  have hR : dgI R E := by rw [← g6]; exact g5.dg
  have hmd : md p R E := rsd_md g7 hR
  have hI : I0 (s + 9) 1 = nI E := by rw [g5.1.1, tp_s]
  have fin : E < 2 * (k + 1) → wp_X5_groupByDegrees_178 K s I0 L0 A0 Z := fun hlt => s_group_end hs hA hP hn6 (by omega) hgi hlt (fun I' L' g' Q' h1 h2 => hZ I' L' g' Q' h1 (fr0.trans h2))
  refine ⟨fun z => fin ?_, fun z => ⟨hs.1, hs.re.1, fun z2 => fin ?_, fun z2 => ?_⟩⟩
  · rw [ilt, li3, tI (by omega)] at z
    omega
  · rw [hI, ilt, tI (by omega), mulT2 (by omega)] at z2
    omega
  rw [hI, ilt, tI (by omega), mulT2 (by omega)] at z2
  rw [ilt, li3, tI (by omega)] at z
  have hk4 : k + 1 < 4 := by omega
  have hcjE : cj s (k + 1) = s + 18 + 2 * (k + 1) := rfl
  have hRF : dmP p R F := (show dmP p R (pm R (pdG pfR Q k).1) from ⟨(pdG pfR Q k).1, (pdG pfR Q k).2, by rw [pmc]; exact cg.refl _ _⟩).trans g13.2
  refine ⟨_, s_findConjugate (d := k + 1) (n := n) (F := F) hs hA (by omega) (by omega) g1 hP g2 g3 rF lF hn0 hn6 (fun j h1 h2 => g4 j h1 (by omega)), ?_⟩
  rintro I1 L1 A1 ⟨hcj, c1, rfl⟩
  refine ⟨hs.cja hk4 (tI (by omega)), hs.he.1, ?_⟩
  rw [ixn (by omega), hA.1 (k + 1) hk4]
  refine ⟨_, s_become hs.he (hs.cjr hk4), ?_⟩
  rintro I2 L2 A2 ⟨e2, e2', rfl⟩
  have c2 : ChR (· = s + 13) I1 I2 L1 L2 := by rw [e2, e2']; exact become_ch
  have p2 : pl L2 (s + 13) = pl L1 (cj s (k + 1)) := by unfold pl; rw [e2', us_self]
  have hS1 : ∀ y, (y = s + 11 ∨ y = cj s (k + 1) ∨ y = s + 1) → s + 1 ≤ y ∧ y + 1 < s + 41 := fun y hy => by omega
  have c12 : ChR (fun y => y = s + 11 ∨ y = cj s (k + 1) ∨ y = s + 1 ∨ y = s + 13) I0 I2 L0 L2 := (c1.mono (fun y hy => by omega)).trans (c2.mono (fun y hy => by omega))
  have m2 : mdl L2 (s + 1) = p := by show (L2 (s + 1) 0).toInt = p; rw [c12.2 (s + 1) (fun r hr => by omega)]; exact g1
  obtain ⟨⟨dj, nj⟩, rj, dlj, hj⟩ := hcj
  refine ⟨hs.x3.1, _, s_addAt (k := 1) (p := p) hs.x3.1 hs.he m2 (by omega) hp2 (by rw [p2]; exact rj) (by omega) (by decide), ?_⟩
  rintro I3 L3 A3 ⟨v3, r3, ⟨d3, n3⟩, c3, rfl⟩
  have c123 : ChR (fun y => y = s + 11 ∨ y = cj s (k + 1) ∨ y = s + 1 ∨ y = s + 13) I0 I3 L0 L3 := c12.trans (c3.mono (fun y hy => by omega))
  have m3 : mdl L3 (s + 1) = p := by show (L3 (s + 1) 0).toInt = p; rw [c123.2 (s + 1) (fun r hr => by omega)]; exact g1
  have hH : cgf p F (xq p (k + 1)) (pl L3 (s + 13)) := by
    have h1 : cgf p F (xq p (k + 1)) (pa (pl L2 (s + 13)) (pc (-1) (px (pk0 1)))) := by
      rw [p2]
      refine dmP.of_cg hj (fun i => ?_)
      show (p : Int) ∣ (pw (px (pk0 1)) (p ^ (k + 1)) i + -1 * px (pk0 1) i) + -1 * (pl L1 (cj s (k + 1)) i + -1 * px (pk0 1) i) - (pw (px (pk0 1)) (p ^ (k + 1)) i + -1 * pl L1 (cj s (k + 1)) i)
      exact ⟨0, by omega⟩
    refine h1.trans (cgf.of_cg (fun i => ?_))
    show (p : Int) ∣ pl L2 (s + 13) i + -1 * px (pk0 1) i - pl L3 (s + 13) i
    rw [v3 i, px_1]
    show (p : Int) ∣ pl L2 (s + 13) i + -1 * (if i = 0 then 0 else if i = 1 then 1 else 0) - (if i = 1 then (pl L2 (s + 13) 1 + (-1 : Int64).toInt) % p else pl L2 (s + 13) i)
    by_cases y : i = 1
    · subst y
      rw [if_neg (by omega), if_pos rfl, if_pos rfl, show ((-1 : Int64).toInt) = -1 from rfl]
      have := Int.dvd_neg.mpr (mod_dvd (pl L2 (s + 13) 1 + -1) p)
      generalize (pl L2 (s + 13) 1 + -1) % (p : Int) = w at this ⊢
      rwa [show -(w - (pl L2 (s + 13) 1 + -1)) = pl L2 (s + 13) 1 + -1 * 1 - w by omega] at this
    · rw [if_neg y]
      by_cases y0 : i = 0
      · rw [if_pos y0]; exact ⟨0, by omega⟩
      · rw [if_neg y0, if_neg y]; exact ⟨0, by omega⟩
  have n9 : RowN I3 L3 (s + 9) (E + 1) := g5.ch c123 (by omega)
  have p9 : pl L3 (s + 9) = R := (pl_keep (c123.l (by omega))).trans g6
  refine ⟨_, s_findCommon hs.x3 hs.fo hs.he hs.re (by omega) (by omega) (by omega) (by omega) m3 hP r3 (by rw [p9]; exact g7) n3 n9, ?_⟩
  rintro I4 L4 A4 ⟨hG, r4, ⟨d4, n4, l4, z4⟩, c4, rfl⟩
  rw [p9] at hG
  have hGx := gcdm_xq hH hRF hG
  have c1234 : ChR (fun y => y = s + 11 ∨ y = cj s (k + 1) ∨ y = s + 1 ∨ y = s + 13 ∨ y = s + 3 ∨ y = s + 5 ∨ y = s + 15) I0 I4 L0 L4 := (c123.mono (fun y hy => by omega)).trans (c4.mono (fun y hy => by omega))
  have hd4 : d4 ≠ 0 := fun e => by have := (z4 e).2; omega
  obtain ⟨e, rfl⟩ : ∃ e, d4 = e + 1 := ⟨d4 - 1, by omega⟩
  have hGd : dgI (pl L4 (s + 15)) e := n4.dg
  have hGm : md p (pl L4 (s + 15)) e := rsd_md r4 hGd
  have he13 := n4.1.2.1
  have heE : e ≤ E := hG.dy.le hP.1 hGm hmd
  have hcjs : ∀ j, cj s j = s + 18 + 2 * j := fun _ => rfl
  have heqs : ∀ j, eq5 s j = s + 27 + 2 * j := fun _ => rfl
  -- the conjugates
  have hcj4 : ∀ j, 1 ≤ j → j ≤ k + 1 → CJ1 p n F I4 L4 (cj s j) j := fun j h1 h2 => by
    by_cases w : j = k + 1
    · subst w
      have hcc : ChR (fun y => y = s + 13 ∨ y = s + 3 ∨ y = s + 5 ∨ y = s + 15) I1 I4 L1 L4 := (c2.mono (fun y hy => by omega)).trans ((c3.mono (fun y hy => by omega)).trans (c4.mono (fun y hy => by omega)))
      exact CJ1.keep ⟨⟨dj, nj⟩, rj, dlj, hj⟩ (hcc.i (by omega)) (hcc.l (by omega))
    · have := hcjs j
      exact (g4 j h1 (by omega)).keep (c1234.i (by omega)) (c1234.l (by omega))
  have fr4 : Fr s (s + 41) I0 I4 L0 L4 := Fr.of_ch c1234 (fun r hr => by omega)
  have m4 : mdl L4 (s + 1) = p := by show (L4 (s + 1) 0).toInt = p; rw [c1234.2 (s + 1) (fun r hr => by omega)]; exact g1
  have p94 : pl L4 (s + 9) = R := (pl_keep (c1234.l (by omega))).trans g6
  have n94 : RowN I4 L4 (s + 9) (E + 1) := g5.ch c1234 (by omega)
  have p74 : pl L4 (s + 7) = F := (pl_keep (c1234.l (by omega))).trans g3
  have n74 : RowN I4 L4 (s + 7) (n + 1) := g2.ch c1234 (by omega)
  refine ⟨hs.fo.1, fun z3 v hv => ?_, fun z3 => ?_⟩
  · -- nothing of this degree
    rw [n4.1.1, tp_s, ile, tI (by omega), li0] at z3
    have : e = 0 := by omega
    subst this
    have hst := dstp_unit hP.1 hR.pf hGd.pf hGx hGm
    have hnx := hst.next hP.1 g11 g12
    have hch := g10.step hst hGm
    refine hC (μ - 1) _ _ _ _ (by omega) ⟨k + 1, E, R, upN g k 0, upN Q k (letI := pfR; 1), by omega, by rw [hv, sI], ⟨m4, n74, p74, hcj4, n94, p94, g7, g8, g9, ?_, hnx.1, hnx.2, ?_, fun j hj => ?_, fun j hj hj2 => ?_, ?_⟩, fr0.trans fr4, rfl⟩
    · rw [lsg, lsg_congr k (g' := g) (fun i hi => by unfold upN; rw [if_neg (by omega)])]
      have : upN g k 0 k = 0 := if_pos rfl
      rw [this]; exact hch
    · simp only [pdG]
      have e1 : upN Q k (letI := pfR; 1) k = (letI := pfR; 1) := if_pos rfl
      rw [e1, pd_congr pfR (h := Q) k (fun i hi => by unfold upN; rw [if_neg (by omega)])]
      have e2 : (letI := pfR; pdG pfR Q k * 1) = pdG pfR Q k := by letI := pfR; grind
      rw [e2]; exact g13
    · have := heqs (j + 1)
      by_cases w : j = k
      · subst w
        have e1 : upN g j 0 j = 0 := if_pos rfl
        have e2 : upN Q j (letI := pfR; 1) j = (letI := pfR; 1) := if_pos rfl
        rw [e1, e2]
        exact ⟨Or.inl ⟨rfl, (g15 (j + 1) (by omega) (Or.inr (by omega))).ch c1234 (by omega)⟩, fun z => absurd z (by omega), fun _ => rfl⟩
      · have e1 : upN g k 0 j = g j := if_neg w
        have e2 : upN Q k (letI := pfR; 1) j = Q j := if_neg w
        rw [e1, e2]
        obtain ⟨a, b, c⟩ := g14 j (by omega)
        exact ⟨a.keep (c1234.i (by omega)) (c1234.l (by omega)), fun w2 => by rw [pl_keep (c1234.l (by omega))]; exact b w2, c⟩
    · have := heqs j
      exact (g15 j hj (by omega)).ch c1234 (by omega)
    · rw [c1234.i (by omega)]; exact g16
  · rw [n4.1.1, tp_s, ile, tI (by omega), li0] at z3
    have hk7 : k + 1 < 7 := by omega
    refine ⟨hs.eqa hk7 (tI (by omega)), ?_⟩
    rw [hA.2.1 (k + 1) hk7]
    have hrow := hs.eqr hk7
    have heq := heqs (k + 1)
    refine ⟨hrow.1, _, s_become hrow hs.fo, ?_⟩
    rintro I5 L5 A5 ⟨e5, e5', rfl⟩
    have c5 : ChR (· = eq5 s (k + 1)) I4 I5 L4 L5 := by rw [e5, e5']; exact become_ch
    have p5 : pl L5 (eq5 s (k + 1)) = pl L4 (s + 15) := by unfold pl; rw [e5', us_self]
    have n5 : RowN I5 L5 (eq5 s (k + 1)) (e + 1) := ⟨⟨by rw [e5, u2_self]; exact n4.1.1, n4.1.2.1, fun i h3 h4 => by rw [e5', us_self]; exact n4.1.2.2 i h3 h4⟩, fun e' he => by rw [p5]; exact n4.2 e' he⟩
    have m5 : mdl L5 (s + 1) = p := by show (L5 (s + 1) 0).toInt = p; rw [c5.2 (s + 1) (fun r hr => by rw [hr]; omega)]; exact m4
    have p95 : pl L5 (s + 9) = R := (pl_keep (c5.l (by omega))).trans p94
    have p15 : pl L5 (s + 15) = pl L4 (s + 15) := pl_keep (c5.l (by omega))
    refine ⟨_, s_findQuotient (p := p) (e := e) (da := E + 1) hs.x3 hs.he hs.re hs.fo (by omega) (by omega) (by omega) (by omega) (by omega) m5 (by omega) hp2 (by rw [p95]; exact g7) (by rw [p15]; exact r4) (n94.ch c5 (by omega)).1 (n4.ch c5 (by omega)).1 (by rw [p15]; exact l4 e rfl), ?_⟩
    rintro I6 L6 A6 ⟨⟨rr, hrr, hcg⟩, r6, dl6, ⟨d6, n6⟩, c6, rfl⟩
    rw [p95, p15] at hcg
    have hq := quot_ex hP.1 (pl_pf L6 (s + 13)) hcg hrr hGm hG.dy
    obtain ⟨-, hOd, hO1⟩ := quot_lead hP.1 (pl_pf L6 (s + 13)) hq r6 hGd (l4 e rfl) hmd g8
    have hd6 : d6 = E - e + 1 := n6.len hOd
    subst hd6
    refine ⟨_, s_become hs.re hs.he, ?_⟩
    rintro I7 L7 A7 ⟨e7, e7', rfl⟩ v hv
    have c7 : ChR (· = s + 9) I6 I7 L6 L7 := by rw [e7, e7']; exact become_ch
    have p79 : pl L7 (s + 9) = pl L6 (s + 13) := by unfold pl; rw [e7', us_self]
    have n79 : RowN I7 L7 (s + 9) (E - e + 1) := ⟨⟨by rw [e7, u2_self]; exact n6.1.1, n6.1.2.1, fun i h3 h4 => by rw [e7', us_self]; exact n6.1.2.2 i h3 h4⟩, fun e' he => by rw [p79]; exact n6.2 e' he⟩
    have c67 : ChR (fun y => y = s + 13 ∨ y = s + 3 ∨ y = s + 9) I5 I7 L5 L7 := (c6.mono (fun y hy => by omega)).trans (c7.mono (fun y hy => by omega))
    have c57 : ChR (fun y => y = s + 13 ∨ y = s + 3 ∨ y = s + 9 ∨ y = eq5 s (k + 1)) I4 I7 L4 L7 := (c5.mono (fun y hy => by omega)).trans (c67.mono (fun y hy => by omega))
    have call : ChR (fun y => y = s + 11 ∨ y = cj s (k + 1) ∨ y = s + 1 ∨ y = s + 13 ∨ y = s + 3 ∨ y = s + 5 ∨ y = s + 15 ∨ y = s + 9 ∨ y = eq5 s (k + 1)) I0 I7 L0 L7 := (c1234.mono (fun y hy => by omega)).trans (c57.mono (fun y hy => by omega))
    have hst : DStp p (k + 1) R (pl L4 (s + 15)) (pl L6 (s + 13)) := ⟨hGd.pf, pl_pf _ _, hGx, by rw [pmc]; exact asc.of_cg hq⟩
    have hnx := hst.next hP.1 g11 g12
    have hch := g10.step hst hGm
    have hSd : Sd p (k + 1) (plF L7 (eq5 s (k + 1))) := hst.sd hP.1 (by omega) g11 g12 hGm (by show pl L7 (eq5 s (k + 1)) = _; rw [pl_keep (c67.l (by omega)), p5])
    have p7e : pl L7 (eq5 s (k + 1)) = pl L4 (s + 15) := (pl_keep (c67.l (by omega))).trans p5
    obtain ⟨Gf, hGf⟩ : ∃ Gf : PF, Gf.1 = pl L4 (s + 15) := ⟨⟨_, hGd.pf⟩, rfl⟩
    refine hC (μ - 1) _ _ _ _ (by omega) ⟨k + 1, E - e, pl L6 (s + 13), upN g k e, upN Q k Gf, by omega, by rw [hv, sI], ⟨?_, n74.ch c57 (by omega), (pl_keep (c57.l (by omega))).trans p74, fun j h1 h2 => ?_, n79, p79, r6, hO1, by omega, ?_, hnx.1, hnx.2, ?_, fun j hj => ?_, fun j hj hj2 => ?_, ?_⟩, fr0.trans (Fr.of_ch call (fun r hr => by omega)), rfl⟩
    · show (L7 (s + 1) 0).toInt = p
      rw [c57.2 (s + 1) (fun r hr => by omega)]; exact m4
    · have := hcjs j
      exact (hcj4 j h1 h2).keep (c57.i (by omega)) (c57.l (by omega))
    · rw [lsg, lsg_congr k (g' := g) (fun i hi => by unfold upN; rw [if_neg (by omega)])]
      have : upN g k e k = e := if_pos rfl
      rw [this]; exact hch
    · simp only [pdG]
      have e1 : upN Q k Gf k = Gf := if_pos rfl
      rw [e1, pd_congr pfR (h := Q) k (fun i hi => by unfold upN; rw [if_neg (by omega)])]
      refine g13.trans ((asc.of_cg (cg.mul_l _ hq)).trans (asc.of_cg ?_))
      show cg p (pm (pm (pl L6 (s + 13)) (pl L4 (s + 15))) (pdG pfR Q k).1) (pm (pl L6 (s + 13)) (pm (pdG pfR Q k).1 Gf.1))
      rw [hGf, pma, pmc (pl L4 (s + 15))]; exact cg.refl _ _
    · have := heqs (j + 1)
      by_cases w : j = k
      · subst w
        have e1 : upN g j e j = e := if_pos rfl
        have e2 : upN Q j Gf j = Gf := if_pos rfl
        rw [e1, e2]
        exact ⟨Or.inr ⟨by omega, n5.ch c67 (by omega), by rw [p7e]; exact r4, by rw [p7e]; exact l4 e rfl, hSd⟩, fun _ => by rw [hGf, p7e], fun z => by omega⟩
      · have e1 : upN g k e j = g j := if_neg w
        have e2 : upN Q k Gf j = Q j := if_neg w
        rw [e1, e2]
        obtain ⟨a, b, c⟩ := g14 j (by omega)
        exact ⟨a.keep (call.i (by omega)) (call.l (by omega)), fun w2 => by rw [pl_keep (call.l (by omega))]; exact b w2, c⟩
    · have := heqs j
      exact (g15 j hj (by omega)).ch call (by omega)
    · rw [call.i (by omega)]; exact g16
set_option maxHeartbeats 1000000 in
/-- groupByDegrees -/
theorem s_groupByDegrees {s p n : Nat} {F : PP} (hs : isX5 K s) (hA : AX5 A s) (hP : Pm p) (hm : mdl L (s + 1) = p) (hi : RowN I L (s + 7) (n + 1)) (hF : pl L (s + 7) = F) (rF : rsd p F) (lF : F n = 1) (hn0 : 0 < n) (hn6 : n ≤ 6) (hsq : sqf p F) : ConV K yX5_groupByDegrees wsX5_groupByDegrees 4 115 I L A [.ref s] (fun I' L' A' => (∃ g Q, Grp s p n F I' L' g Q) ∧ Fr s (s + 41) I I' L L' ∧ A' = A) := by
  have heqs : ∀ j, eq5 s j = s + 27 + 2 * j := fun _ => rfl
  apply w_X5_groupByDegrees
  unfold wp_X5_groupByDegrees
  refine ⟨hs.1, fun I1 e1 => ⟨2, 7, 7, ⟨hs.2.2.2.2.2.2.2.2.2.1, by decide, by decide⟩, ?_⟩⟩
  have f1 : Fr s (s + 41) I I1 L L := fun y hy => ⟨by rw [e1, u2_off _ _ (by omega)], rfl⟩
  unfold wp_X5_groupByDegrees_15
  refine ⟨fun μ I' L' A' x1 x2 x3 => ∃ j, j + μ = 7 ∧ x1 = s + 26 ∧ x2 = 7 ∧ x3 = nI j ∧ (∀ i, i < j → RowN I' L' (eq5 s i) 0) ∧ ChR (fun y => s + 27 ≤ y ∧ y < s + 40) I1 I' L L' ∧ A' = A, 7, ⟨0, rfl, rfl, rfl, rfl, fun i hi => absurd hi (Nat.not_lt_zero _), ChR.refl _ _ _, rfl⟩, ?_⟩
  rintro μ C hC I2 L2 A2 _ _ _ ⟨j, hj, rfl, rfl, rfl, hz, c2, rfl⟩
  refine ⟨fun z => ?_, fun z => ?_⟩
  · rw [ile, li7, tI (by omega)] at z
    have : j = 7 := by omega
    subst this
    refine ⟨hs.1, hs.re.1, _, s_become hs.re hs.im, ?_⟩
    rintro I3 L3 A3 ⟨e3, e3', rfl⟩
    have c3 : ChR (· = s + 9) I2 I3 L2 L3 := by rw [e3, e3']; exact become_ch
    have c23 : ChR (fun y => (s + 27 ≤ y ∧ y < s + 40) ∨ y = s + 9) I1 I3 L L3 := (c2.mono (fun y hy => Or.inl hy)).trans (c3.mono (fun y hy => Or.inr hy))
    have n7 : RowN I3 L3 (s + 7) (n + 1) := (hi.keep (by rw [e1, u2_off _ _ (by omega)]) rfl : RowN I1 L (s + 7) (n + 1)).ch c23 (by omega)
    have p7 : pl L3 (s + 7) = F := (pl_keep (c23.l (by omega))).trans hF
    have p27 : pl L2 (s + 7) = F := (pl_keep (c2.l (by omega))).trans hF
    have n27 : RowN I2 L2 (s + 7) (n + 1) := (hi.keep (by rw [e1, u2_off _ _ (by omega)]) rfl : RowN I1 L (s + 7) (n + 1)).ch c2 (by omega)
    have p9 : pl L3 (s + 9) = F := by rw [← p27]; unfold pl; rw [e3', us_self]
    have n9 : RowN I3 L3 (s + 9) (n + 1) := ⟨⟨by rw [e3, u2_self]; exact n27.1.1, n27.1.2.1, fun i h3 h4 => by rw [e3', us_self]; exact n27.1.2.2 i h3 h4⟩, fun e' he => by rw [p9, ← p27]; exact n27.2 e' he⟩
    refine s_group_loop (E := n) (R := F) (g := fun _ => 0) (Q := fun _ => (letI := pfR; 1)) hs hA hP hn0 hn6 rF lF ⟨?_, n7, p7, fun j h1 h2 => by omega, n9, p9, rF, lF, Nat.le_refl _, Chn.start p F, hsq, minD1 p F, ?_, fun j hj => absurd hj (Nat.not_lt_zero _), fun j hj _ => (hz j hj).ch c3 (by have := heqs j; omega), ?_⟩ (fun I' L' g Q h1 h2 => ⟨⟨g, Q, h1⟩, f1.trans ((Fr.of_ch c23 (fun r hr => by omega)).trans h2), rfl⟩)
    · show (L3 (s + 1) 0).toInt = p
      rw [c23.2 (s + 1) (fun r hr => by omega)]; exact hm
    · show asc p F (pm F (pk0 1))
      rw [pm_1r]; exact asc.refl _ _
    · rw [c23.i (by omega), e1, u2_self]
  · rw [ile, li7, tI (by omega)] at z
    have hj7 : j < 7 := by omega
    refine ⟨hs.eqa hj7 (tI (by omega)), ?_⟩
    rw [ixn (by omega), hA.2.1 j hj7]
    have hrow := hs.eqr hj7
    have hej := heqs j
    refine ⟨hrow.1, _, s_clear hrow, ?_⟩
    rintro I3 L3 A3 ⟨r3, c3, rfl⟩ v hv
    refine hC (μ - 1) _ _ _ _ _ _ (by omega) ⟨j + 1, by omega, rfl, rfl, by rw [hv, sI], fun i hi' => ?_, c2.trans (c3.mono (fun y hy => by omega)), rfl⟩
    by_cases w : i = j
    · subst w
      have hln : ∀ n, ln (fun _ => (0 : Int64)) n = 0 := by
        intro n
        induction n with
        | zero => rfl
        | succ n ih => rw [ln, if_pos rfl, ih]
      have := r3.rn
      rw [hln] at this
      exact this
    · exact (hz i (by omega)).ch c3 (by have := heqs i; omega)
end
