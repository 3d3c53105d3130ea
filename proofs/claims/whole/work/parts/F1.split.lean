/-! THE SPLITTER: trySplit -/
section
variable {K : Cx} {I : TI} {L : TL} {A : TA}
/-- only the rows of S are written, and fields of s -/
def ChI (s : Nat) (S : Nat → Prop) (I I' : TI) (L L' : TL) : Prop := (∀ y, y ≠ s → ¬ S y → I' y = I y) ∧ ∀ y, (∀ r, S r → y ≠ r + 1) → L' y = L y
theorem ChR.ci {S : Nat → Prop} {I' : TI} {L' : TL} (h : ChR S I I' L L') (s : Nat) : ChI s S I I' L L' := ⟨fun y _ hy => h.1 y hy, h.2⟩
theorem ChI.refl (s : Nat) (S : Nat → Prop) (I : TI) (L : TL) : ChI s S I I L L := ⟨fun _ _ _ => rfl, fun _ _ => rfl⟩
theorem ChI.trans {s : Nat} {S : Nat → Prop} {I' I'' : TI} {L' L'' : TL} (h : ChI s S I I' L L') (h' : ChI s S I' I'' L' L'') : ChI s S I I'' L L'' := ⟨fun y h1 h2 => (h'.1 y h1 h2).trans (h.1 y h1 h2), fun y hy => (h'.2 y hy).trans (h.2 y hy)⟩
theorem ChI.mono {s : Nat} {S T : Nat → Prop} {I' : TI} {L' : TL} (h : ChI s S I I' L L') (hs : ∀ x, S x → T x) : ChI s T I I' L L' := ⟨fun y h1 h2 => h.1 y h1 (fun q => h2 (hs y q)), fun y hy => h.2 y (fun r q => hy r (hs r q))⟩
theorem ChI.i {s : Nat} {S : Nat → Prop} {I' : TI} {L' : TL} (h : ChI s S I I' L L') {u : Nat} (h1 : u ≠ s) (hu : ¬ S u) : I' u = I u := h.1 u h1 hu
theorem ChI.l {s : Nat} {S : Nat → Prop} {I' : TI} {L' : TL} (h : ChI s S I I' L L') {u : Nat} (hu : ¬ S u) : L' (u + 1) = L (u + 1) := h.2 _ (fun r q e => hu ((show u = r by omega) ▸ q))
theorem ChI.fab {s a b : Nat} {S : Nat → Prop} {I' : TI} {L' : TL} (h : ChI s S I I' L L') (hsa : a ≤ s ∧ s < b) (hS : ∀ r, S r → a ≤ r ∧ r + 1 < b) : Fr a b I I' L L' := fun y hy => ⟨h.1 y (fun w => hy (by omega)) (fun w => hy (by have := hS y w; omega)), h.2 y (fun r hr e => hy (by have := hS r hr; omega))⟩
/-- a piece -/
def Pc1 (p : Nat) (I : TI) (L : TL) (r : Nat) (g : PF) (e : Nat) : Prop := RowN I L r (e + 1) ∧ pl L r = g.1 ∧ rsd p g.1 ∧ g.1 e = 1 ∧ 0 < e
theorem Pc1.keep {p r e : Nat} {g : PF} {I' : TI} {L' : TL} (h : Pc1 p I L r g e) (hi : I' r = I r) (hl : L' (r + 1) = L (r + 1)) : Pc1 p I' L' r g e := ⟨h.1.keep hi hl, (pl_keep hl).trans h.2.1, h.2.2⟩
theorem Pc1.dg {p r e : Nat} {g : PF} (h : Pc1 p I L r g e) : dgI g.1 e := by rw [← h.2.1]; exact h.1.dg
theorem Pc1.mdp {p r e : Nat} {g : PF} (h : Pc1 p I L r g e) : md p g.1 e := rsd_md h.2.2.1 h.dg
set_option maxHeartbeats 4000000 in
theorem s_trySplit {s i d sh p c n e cnt : Nat} {F : PP} {g : PF} (hs : isX5 K s) (hA : AX5 A s) (hP : Pm p) (hp3 : 33554467 ≤ p) (hc : 2 * c + 1 = p) (hm : mdl L (s + 1) = p) (hd1 : 1 ≤ d) (hd3 : d ≤ 3) (hsh : sh < 1000000) (h9 : I s 9 = nI cnt) (hcnt : cnt < 6) (hi : i < cnt) (hpc : Pc1 p I L (pc5 s i) g e) (he6 : e ≤ 6) (hSd : Sd p d g) (hgF : dmP p g.1 F) (hn6 : n ≤ 6) (hcj : ∀ j, 1 ≤ j → j < d → CJ1 p n F I L (cj s j) j) : ConV K yX5_trySplit wsX5_trySplit 4 94 I L A [.ref s, .int (nI i), .int (nI d), .int (nI sh)] (fun I' L' A' => ((npt p c d sh g ∧ I' s 9 = nI cnt ∧ Pc1 p I' L' (pc5 s i) g e ∧ ChI s (fun y => s + 1 ≤ y ∧ y ≤ s + 15 ∧ y ≠ s + 7 ∧ y ≠ s + 9) I I' L L') ∨ (∃ G Q eG, npt p c d sh G ∧ npt p c d sh Q ∧ Pc1 p I' L' (pc5 s i) G eG ∧ Pc1 p I' L' (pc5 s cnt) Q (e - eG) ∧ eG < e ∧ Zc p (letI := pfR; g - G * Q) ∧ dmP p G.1 g.1 ∧ dmP p Q.1 g.1 ∧ I' s 9 = nI (cnt + 1) ∧ ChI s (fun y => (s + 1 ≤ y ∧ y ≤ s + 15 ∧ y ≠ s + 7 ∧ y ≠ s + 9) ∨ y = pc5 s i ∨ y = pc5 s cnt) I I' L L')) ∧ L' (s + 1) = L (s + 1) ∧ A' = A) := by
  have hp1 := hP.1.1
  have hp2 := hP.2
  have hid : Idl pfR (ZP p g.1) := idl_p
  have hpi : pc5 s i = s + 42 + 2 * i := rfl
  have hpk : pc5 s cnt = s + 42 + 2 * cnt := rfl
  have hi6 : i < 6 := by omega
  have hri := hs.pcr hi6
  have hrc := hs.pcr hcnt
  obtain ⟨nu, pu, ru, lu, he0⟩ := hpc
  apply w_X5_trySplit
  unfold wp_X5_trySplit
  refine ⟨hs.1, hs.pca hi6 (tI (by omega)), ?_⟩
  rw [ixn (by omega), hA.2.2 i hi6]
  refine ⟨_, s_findNorm (p := p) (n := n) (e := e) (F := F) (g := g) hs hA hri (by omega) hP hp3 hm hd1 hd3 hsh nu pu ru lu he0 he6 hgF hn6 hcj, ?_⟩
  rintro I1 L1 A1 ⟨hl, r1, ⟨d1, hd1', n1⟩, c1, rfl⟩
  have m1' : L1 (s + 1) = L (s + 1) := c1.2 (s + 1) (fun r hr => by omega)
  have m1 : mdl L1 (s + 1) = p := by show (L1 (s + 1) 0).toInt = p; rw [m1']; exact hm
  have pu1 : pl L1 (pc5 s i) = g.1 := (pl_keep (c1.l (by omega))).trans pu
  have nu1 := nu.ch c1 (show ¬ (pc5 s i = s + 11 ∨ pc5 s i = s + 13 ∨ pc5 s i = s + 1) by omega)
  have hexp : (((L1 (s + 1) 0) - 1) / 2).toInt = (c : Int) := by
    have h1 : (L1 (s + 1) 0).toInt = p := m1
    have h2 : (L1 (s + 1) 0 - 1).toInt = (p : Int) - 1 := by rw [jsub (by rw [h1]; show _ ≤ (p : Int) - 1; omega) (by rw [h1]; show (p : Int) - 1 < _; omega), h1]; rfl
    rw [jdiv (by rw [h2]; omega), h2, show (2 : Int64).toInt = 2 from rfl, Int.tdiv_eq_ediv_of_nonneg (by omega)]
    omega
  refine ⟨hs.x3.1, _, s_raise (p := p) (e := e) (n := c) hs.x3 hs.he hs.li hri (by omega) (by omega) m1 (by omega) hp2 r1 (by rw [pu1]; exact ru) n1.1 nu1.1 (by rw [pu1]; exact lu) hd1' (by omega) he0 hexp (by omega), ?_⟩
  rintro I2 L2 A2 ⟨hT, r2, dT, ⟨d2, n2⟩, c2, rfl⟩
  rw [pu1] at hT
  have c12 : ChR (fun y => y = s + 11 ∨ y = s + 13 ∨ y = s + 1) I I2 L L2 := c1.trans (c2.mono (fun y hy => by omega))
  have m2' : L2 (s + 1) = L (s + 1) := c12.2 (s + 1) (fun r hr => by omega)
  have m2 : mdl L2 (s + 1) = p := by show (L2 (s + 1) 0).toInt = p; rw [m2']; exact hm
  refine ⟨_, s_addAt (k := 0) (p := p) hs.x3.1 hs.he m2 (by omega) hp2 r2 (by omega) (by decide), ?_⟩
  rintro I3 L3 A3 ⟨v3, r3, ⟨d3, n3⟩, c3, rfl⟩
  have c13 : ChR (fun y => y = s + 11 ∨ y = s + 13 ∨ y = s + 1) I I3 L L3 := c12.trans (c3.mono (fun y hy => by omega))
  have m3' : L3 (s + 1) = L (s + 1) := c13.2 (s + 1) (fun r hr => by omega)
  have m3 : mdl L3 (s + 1) = p := by show (L3 (s + 1) 0).toInt = p; rw [m3']; exact hm
  have pu3 : pl L3 (pc5 s i) = g.1 := (pl_keep (c13.l (by omega))).trans pu
  have nu3 := nu.ch c13 (show ¬ (pc5 s i = s + 11 ∨ pc5 s i = s + 13 ∨ pc5 s i = s + 1) by omega)
  have hW : ZP p g.1 (letI := pfR; plF L1 (s + 11) ^ c - 1 - plF L3 (s + 13)) := by
    have hT' : ZP p g.1 (letI := pfR; plF L1 (s + 11) ^ c - plF L2 (s + 13)) := hT
    have h6 : ZP p g.1 (letI := pfR; plF L2 (s + 13) - 1 - plF L3 (s + 13)) := zc_zp (fun j => by
      show (p : Int) ∣ pl L2 (s + 13) j + -1 * pk0 ((1 : Nat) : Int) j + -1 * pl L3 (s + 13) j
      rw [v3 j]
      cases j with
      | zero =>
        rw [if_pos rfl]
        show (p : Int) ∣ pl L2 (s + 13) 0 + -1 * 1 + -1 * ((pl L2 (s + 13) 0 + (-1 : Int64).toInt) % p)
        rw [show ((-1 : Int64).toInt) = -1 from rfl]
        have := Int.dvd_neg.mpr (mod_dvd (pl L2 (s + 13) 0 + -1) p)
        generalize (pl L2 (s + 13) 0 + -1) % (p : Int) = w at this ⊢
        rwa [show -(w - (pl L2 (s + 13) 0 + -1)) = pl L2 (s + 13) 0 + -1 * 1 + -1 * w by omega] at this
      | succ j =>
        rw [if_neg (by omega)]
        show (p : Int) ∣ pl L2 (s + 13) (j + 1) + -1 * 0 + -1 * pl L2 (s + 13) (j + 1)
        exact ⟨0, by omega⟩)
    refine hid.of (hid.2.1 _ _ hT' h6) ?_
    letI := pfR
    grind
  refine ⟨_, s_findCommon hs.x3 hs.fo hs.he hri (by omega) (by omega) (by omega) (by omega) m3 hP r3 (by rw [pu3]; exact ru) n3 nu3, ?_⟩
  rintro I4 L4 A4 ⟨hG, r4, ⟨d4, n4, l4, z4⟩, c4, rfl⟩
  rw [pu3] at hG
  have c14 : ChR (fun y => y = s + 11 ∨ y = s + 13 ∨ y = s + 1 ∨ y = s + 3 ∨ y = s + 5 ∨ y = s + 15) I I4 L L4 := (c13.mono (fun y hy => by omega)).trans (c4.mono (fun y hy => by omega))
  have m4' : L4 (s + 1) = L (s + 1) := c14.2 (s + 1) (fun r hr => by omega)
  have m4 : mdl L4 (s + 1) = p := by show (L4 (s + 1) 0).toInt = p; rw [m4']; exact hm
  have hd4 : d4 ≠ 0 := fun e => by have := (z4 e).2; omega
  obtain ⟨eG, rfl⟩ : ∃ eG, d4 = eG + 1 := ⟨d4 - 1, by omega⟩
  have hGd : dgI (pl L4 (s + 15)) eG := n4.dg
  have hGm : md p (pl L4 (s + 15)) eG := rsd_md r4 hGd
  have hgd : dgI g.1 e := by rw [← pu]; exact nu.dg
  have hgm : md p g.1 e := rsd_md ru hgd
  have hG13 := n4.1.2.1
  have heG : eG ≤ e := hG.dy.le hP.1 hGm hgm
  have hpc4 : Pc1 p I4 L4 (pc5 s i) g e := Pc1.keep ⟨nu, pu, ru, lu, he0⟩ (c14.i (by omega)) (c14.l (by omega))
  have cI4 : ChI s (fun y => s + 1 ≤ y ∧ y ≤ s + 15 ∧ y ≠ s + 7 ∧ y ≠ s + 9) I I4 L L4 := (c14.mono (fun y hy => by omega)).ci s
  have h94 : I4 s 9 = nI cnt := by rw [c14.i (by omega)]; exact h9
  have hGF : GcdM p (plF L4 (s + 15)).1 (plF L3 (s + 13)).1 g.1 := hG
  have none : (eG = 0 ∨ eG = e) → npt p c d sh g := fun h => split_none hP.1 hl hW hGF hgm hGm h
  refine ⟨hs.fo.1, fun z => ⟨Or.inl ⟨none (Or.inl ?_), h94, hpc4, cI4⟩, m4', rfl⟩, fun z => ⟨hri.1, fun z2 => ⟨Or.inl ⟨none (Or.inr ?_), h94, hpc4, cI4⟩, m4', rfl⟩, fun z2 => ⟨fun z3 => ?_, fun z3 => ?_⟩⟩⟩
  · rw [n4.1.1, tp_s, ile, tI (by omega), li0] at z
    omega
  · rw [hpc4.1.1.1, n4.1.1, tp_s, tp_s, ile, tI (by omega), tI (by omega)] at z2
    omega
  · rw [h94, ile, li6, tI (by omega)] at z3
    omega
  rw [n4.1.1, tp_s, ile, tI (by omega), li0] at z
  rw [hpc4.1.1.1, n4.1.1, tp_s, tp_s, ile, tI (by omega), tI (by omega)] at z2
  have hix : (I4 s 9).toInt = (cnt : Int) := by rw [h94, tI (by omega)]
  refine ⟨hs.pca hcnt hix, ?_⟩
  rw [ix_of hix, hA.2.2 cnt hcnt]
  refine ⟨_, s_findQuotient (p := p) (e := eG) (da := e + 1) hs.x3 hrc hri hs.fo (by omega) (by omega) (by omega) (by omega) (by omega) m4 (by omega) hp2 (by rw [hpc4.2.1]; exact ru) r4 hpc4.1.1 n4.1 (l4 eG rfl), ?_⟩
  rintro I5 L5 A5 ⟨⟨rr, hrr, hcg⟩, r5, dl5, ⟨d5, n5⟩, c5, rfl⟩
  rw [hpc4.2.1] at hcg
  have hq := quot_ex hP.1 (pl_pf L5 (pc5 s cnt)) hcg hrr hGm hG.dy
  obtain ⟨-, hOd, hO1⟩ := quot_lead hP.1 (pl_pf L5 (pc5 s cnt)) hq r5 hGd (l4 eG rfl) hgm lu
  have hd5 : d5 = e - eG + 1 := n5.len hOd
  subst hd5
  refine fun I6 e6 => ⟨_, s_become hri hs.fo, ?_⟩
  rintro I7 L7 A7 ⟨e7, e7', rfl⟩
  have h95 : I5 s 9 = nI cnt := by rw [c5.i (by omega)]; exact h94
  have k6 : ∀ y, y ≠ s → I6 y = I5 y := fun y hy => by rw [e6, u2_off _ _ hy]
  have c7 : ChR (· = pc5 s i) I6 I7 L5 L7 := by rw [e7, e7']; exact become_ch
  have cc : ChI s (fun y => (s + 1 ≤ y ∧ y ≤ s + 15 ∧ y ≠ s + 7 ∧ y ≠ s + 9) ∨ y = pc5 s i ∨ y = pc5 s cnt) I I7 L L7 := by
    refine (cI4.mono (fun y hy => Or.inl hy)).trans (((c5.mono (T := fun y => (s + 1 ≤ y ∧ y ≤ s + 15 ∧ y ≠ s + 7 ∧ y ≠ s + 9) ∨ y = pc5 s i ∨ y = pc5 s cnt) (fun y hy => by omega)).ci s).trans (ChI.trans (I' := I6) (L' := L5) ⟨fun y h1 _ => k6 y h1, fun _ _ => rfl⟩ ((c7.mono (fun y hy => Or.inr (Or.inl hy))).ci s)))
  have p15 : pl L5 (s + 15) = pl L4 (s + 15) := pl_keep (c5.l (by omega))
  have p7i : pl L7 (pc5 s i) = pl L4 (s + 15) := by
    rw [← p15]; unfold pl; rw [e7', us_self]
  have n15 : RowN I6 L5 (s + 15) (eG + 1) := (n4.ch c5 (by omega)).keep (k6 _ (by omega)) rfl
  have n7i : RowN I7 L7 (pc5 s i) (eG + 1) := ⟨⟨by rw [e7, u2_self]; exact n15.1.1, n15.1.2.1, fun j h3 h4 => by rw [e7', us_self]; exact n15.1.2.2 j h3 h4⟩, fun e' he => by rw [p7i, ← p15]; exact n15.2 e' he⟩
  have p7c : pl L7 (pc5 s cnt) = pl L5 (pc5 s cnt) := pl_keep (c7.l (by omega))
  have n7c : RowN I7 L7 (pc5 s cnt) (e - eG + 1) := (n5.keep (k6 _ (by omega)) rfl : RowN I6 L5 (pc5 s cnt) (e - eG + 1)).ch c7 (by omega)
  have hQF : cg p g.1 (pm (plF L5 (pc5 s cnt)).1 (plF L4 (s + 15)).1) := hq
  refine ⟨Or.inr ⟨plF L4 (s + 15), plF L5 (pc5 s cnt), eG, split_in hP.1 hl hW hGF, split_out hP.1 hSd hl hW hGF hQF, ⟨n7i, p7i, r4, l4 eG rfl, by omega⟩, ⟨n7c, p7c, r5, hO1, by omega⟩, by omega, fun j => ?_, hG.dy, ⟨_, hGd.pf, by rw [pmc]; exact hq⟩, ?_, cc⟩, ?_, rfl⟩
  · show (p : Int) ∣ g.1 j + -1 * pm (pl L4 (s + 15)) (pl L5 (pc5 s cnt)) j
    have := hq j
    rw [pmc]
    rwa [show g.1 j + -1 * pm (pl L5 (pc5 s cnt)) (pl L4 (s + 15)) j = g.1 j - pm (pl L5 (pc5 s cnt)) (pl L4 (s + 15)) j by omega]
  · rw [c7.i (by omega), e6, u2_self, h95, sI]
  · rw [c7.2 (s + 1) (fun r hr => by omega), c5.2 (s + 1) (fun r hr => by omega)]; exact m4'
end
