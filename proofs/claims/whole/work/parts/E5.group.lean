/-! THE SPLITTER: groupByDegrees -/
section
variable {K : Cx} {I : TI} {L : TL} {A : TA}
/-- a row of the equals: the product of all factors of degree j, of degree g; nothing if g is 0 -/
def EQ1 (p : Nat) (I : TI) (L : TL) (r j g : Nat) : Prop := (g = 0 ∧ RowN I L r 0) ∨ (0 < g ∧ RowN I L r (g + 1) ∧ rsd p (pl L r) ∧ pl L r g = 1 ∧ Sd p j (plF L r))
theorem EQ1.keep {p r j g : Nat} {I' : TI} {L' : TL} (h : EQ1 p I L r j g) (hi : I' r = I r) (hl : L' (r + 1) = L (r + 1)) : EQ1 p I' L' r j g := by
  have e : pl L' r = pl L r := pl_keep hl
  have e2 : plF L' r = plF L r := Subtype.ext e
  rcases h with ⟨h1, h2⟩ | ⟨h1, h2, h3, h4, h5⟩
  · exact Or.inl ⟨h1, h2.keep hi hl⟩
  · exact Or.inr ⟨h1, h2.keep hi hl, by rw [e]; exact h3, by rw [e]; exact h4, by rw [e2]; exact h5⟩
def GI (s p n : Nat) (F : PP) (I : TI) (L : TL) (k E : Nat) (R : PP) (g : Nat → Nat) (Q : Nat → PF) : Prop :=
  mdl L (s + 1) = p ∧ RowN I L (s + 7) (n + 1) ∧ pl L (s + 7) = F ∧ (∀ j, 1 ≤ j → j ≤ k → CJ1 p n F I L (cj s j) j) ∧ RowN I L (s + 9) (E + 1) ∧ pl L (s + 9) = R ∧ rsd p R ∧ R E = 1 ∧ E ≤ n ∧ Chn p F k R (lsg g k) ∧ sqf p R ∧ minD p (k + 1) R ∧ asc p F (pm R (pdG pfR Q k).1) ∧ (∀ j, j < k → EQ1 p I L (eq5 s (j + 1)) (j + 1) (g j) ∧ (0 < g j → (Q j).1 = pl L (eq5 s (j + 1))) ∧ (g j = 0 → Q j = (letI := pfR; 1))) ∧ (∀ j, j < 7 → (j = 0 ∨ k < j) → RowN I L (eq5 s j) 0) ∧ I s 9 = 0
/-- what groupByDegrees leaves -/
def Grp (s p n : Nat) (F : PP) (I : TI) (L : TL) (g : Nat → Nat) (Q : Nat → PF) : Prop :=
  mdl L (s + 1) = p ∧ RowN I L (s + 7) (n + 1) ∧ pl L (s + 7) = F ∧ (∃ R', Chn p F 6 R' (lsg g 6) ∧ md p R' 0) ∧ asc p F (pdG pfR Q 6).1 ∧ (∀ j, j < 6 → EQ1 p I L (eq5 s (j + 1)) (j + 1) (g j) ∧ (0 < g j → (Q j).1 = pl L (eq5 s (j + 1))) ∧ (g j = 0 → Q j = (letI := pfR; 1))) ∧ RowN I L (eq5 s 0) 0 ∧ I s 9 = 0 ∧ ∃ k, k ≤ 3 ∧ (∀ j, 1 ≤ j → j ≤ k → CJ1 p n F I L (cj s j) j) ∧ ∀ j, k ≤ j → g j = 0 ∨ g j = j + 1
theorem pd_congr {R : Type} (g : Lean.Grind.CommRing R) {f h : Nat → R} : ∀ n, (∀ i, i < n → f i = h i) → pdG g f n = pdG g h n
  | 0, _ => rfl
  | n + 1, e => by simp only [pdG]; rw [pd_congr g n (fun i hi => e i (by omega)), e n (by omega)]
theorem pd_one {R : Type} (g : Lean.Grind.CommRing R) {f : Nat → R} {k : Nat} : ∀ m, (∀ i, k ≤ i → i < k + m → f i = 1) → pdG g f (k + m) = pdG g f k
  | 0, _ => rfl
  | m + 1, e => by
    rw [← Nat.add_assoc]
    simp only [pdG]
    rw [pd_one g m (fun i h1 h2 => e i h1 (by omega)), e (k + m) (by omega) (by omega)]
    grind
theorem li3 : (3 : Int32).toInt = 3 := by decide
theorem mulT2 {k : Nat} (h : k < 1000) : ((2 : Int32) * nI k).toInt = ((2 * k : Nat) : Int) := imul_n (x := 2) (y := k) (by decide) (tI (by omega)) (by omega)
set_option maxHeartbeats 2000000 in
/-- the end: what is left is irreducible -/
theorem s_group_end {s p n k E : Nat} {F R : PP} {g : Nat → Nat} {Q : Nat → PF} {Z : TI → TL → TA → Prop} (hs : isX5 K s) (hA : AX5 A s) (hP : Pm p) (hn6 : n ≤ 6) (hk : k ≤ 3) (h : GI s p n F I L k E R g Q) (h2 : E < 2 * (k + 1)) (hZ : ∀ (I' : TI) (L' : TL) (g : Nat → Nat) (Q : Nat → PF), Grp s p n F I' L' g Q → Fr s (s + 41) I I' L L' → Z I' L' A) : wp_X5_groupByDegrees_178 K s I L A Z := by
  obtain ⟨g1, g2, g3, g4, g5, g6, g7, g8, g9, g10, g11, g12, g13, g14, g15, g16⟩ := h
  have hR : dgI R E := by rw [← g6]; exact g5.dg
  have hmd : md p R E := rsd_md g7 hR
  obtain ⟨R', hch, hR'⟩ := chn_end hP.1 g10 hR.pf g12 hmd h2 (by omega) (by omega)
  have hI : I (s + 9) 1 = nI E := by rw [g5.1.1, tp_s]
  unfold wp_X5_groupByDegrees_178
  refine ⟨hs.1, hs.re.1, fun z => ?_, fun z => ?_⟩
  · rw [hI, ile, tI (by omega), li0] at z
    have : E = 0 := by omega
    subst this
    have hg0 : ∀ j, k ≤ j → gfin g k 0 j = 0 := fun j hj => by unfold gfin; rw [if_neg (by omega), if_neg (by omega)]
    refine hZ I L (gfin g k 0) (fun j => if j < k then Q j else (letI := pfR; 1)) ⟨g1, g2, g3, ⟨R', hch, hR'⟩, ?_, fun j hj => ?_, g15 0 (by omega) (Or.inl rfl), g16, k, hk, g4, fun j hj => Or.inl (hg0 j hj)⟩ (Fr.refl _ _ _ _)
    · have e1 := pd_one pfR (f := fun j => if j < k then Q j else (letI := pfR; 1)) (k := k) (6 - k) (fun i h3 h4 => if_neg (by omega))
      rw [show k + (6 - k) = 6 by omega] at e1
      rw [e1, pd_congr pfR (h := Q) k (fun i hi => if_pos hi)]
      refine g13.trans ?_
      have e2 : cg p (pm R (pdG pfR Q k).1) (pm (pk0 (R 0)) (pdG pfR Q k).1) := cg.mul_l _ (md0 hmd)
      have e3 : pm (pk0 (R 0)) (pdG pfR Q k).1 = pc (R 0) (pdG pfR Q k).1 := funext fun j => pm_c0 _ _ j
      rw [e3] at e2
      exact (asc.of_cg e2).trans (asc.c hP.1 hmd.1).symm
    · by_cases w : j < k
      · have e1 : gfin g k 0 j = g j := if_pos w
        have e2 : (if j < k then Q j else (letI := pfR; 1)) = Q j := if_pos w
        rw [e1]
        simp only [e2]
        exact g14 j w
      · rw [hg0 j (by omega)]
        exact ⟨Or.inl ⟨rfl, g15 (j + 1) (by omega) (Or.inr (by omega))⟩, fun w2 => absurd w2 (by omega), fun _ => if_neg w⟩
  · rw [hI, ile, tI (by omega), li0] at z
    have hE0 : 0 < E := by omega
    have hle := g12.le hP.1 hR.pf hmd hE0
    have hir := g12.irr hP.1 hR.pf hmd hE0 h2
    have hix : (I (s + 9) 1).toInt = (E : Int) := by rw [hI, tI (by omega)]
    refine ⟨hs.eqa (show E < 7 by omega) hix, ?_⟩
    rw [ix_of hix, hA.2.1 E (by omega)]
    have hrow := hs.eqr (show E < 7 by omega)
    refine ⟨hrow.1, _, s_become hrow hs.re, ?_⟩
    rintro I1 L1 A1 ⟨e1, e2, rfl⟩
    have c1 : ChR (· = eq5 s E) I I1 L L1 := by rw [e1, e2]; exact become_ch
    have heq : eq5 s E = s + 27 + 2 * E := rfl
    have p1 : pl L1 (eq5 s E) = R := by
      rw [← g6]
      unfold pl
      rw [e2, us_self]
    have n1 : RowN I1 L1 (eq5 s E) (E + 1) := by
      refine ⟨⟨by rw [e1, u2_self]; exact g5.1.1, g5.1.2.1, fun i h3 h4 => by rw [e2, us_self]; exact g5.1.2.2 i h3 h4⟩, fun e he => ?_⟩
      rw [p1, ← g6]; exact g5.2 e he
    have hgE : gfin g k E (E - 1) = E := by unfold gfin; rw [if_neg (by omega), if_pos (by omega)]
    have hg0 : ∀ j, k ≤ j → j ≠ E - 1 → gfin g k E j = 0 := fun j hj hne => by unfold gfin; rw [if_neg (by omega), if_neg (by omega)]
    obtain ⟨Rf, hRf⟩ : ∃ Rf : PF, Rf.1 = R := ⟨⟨R, hR.pf⟩, rfl⟩
    obtain ⟨Q', hQ'⟩ : ∃ Q' : Nat → PF, Q' = fun j => if j < k then Q j else if j + 1 = E then Rf else (letI := pfR; 1) := ⟨_, rfl⟩
    have q1 : ∀ j, j < k → Q' j = Q j := fun j hj => by rw [hQ']; exact if_pos hj
    have q2 : Q' (E - 1) = Rf := by rw [hQ']; show (if _ then _ else _) = _; rw [if_neg (by omega), if_pos (by omega)]
    have q3 : ∀ j, k ≤ j → j ≠ E - 1 → Q' j = (letI := pfR; 1) := fun j hj hne => by rw [hQ']; show (if _ then _ else _) = _; rw [if_neg (by omega), if_neg (by omega)]
    refine hZ I1 L1 (gfin g k E) Q' ⟨?_, g2.ch c1 (by omega), (pl_keep (c1.l (by omega))).trans g3, ⟨R', hch, hR'⟩, ?_, fun j hj => ?_, (g15 0 (by omega) (Or.inl rfl)).ch c1 (by have : eq5 s 0 = s + 27 + 2 * 0 := rfl; omega), ?_, k, hk, fun j h3 h4 => (g4 j h3 h4).keep (c1.i (by have : cj s j = s + 18 + 2 * j := rfl; omega)) (c1.l (by have : cj s j = s + 18 + 2 * j := rfl; omega)), fun j hj => ?_⟩ (c1.fab (fun r hr => by omega))
    · show (L1 (s + 1) 0).toInt = p
      rw [c1.2 (s + 1) (fun r hr => by rw [hr]; omega)]; exact g1
    · refine g13.trans ?_
      have a1 := pd_one pfR (f := Q') (k := E) (6 - E) (fun i h3 h4 => q3 i (by omega) (by omega))
      rw [show E + (6 - E) = 6 by omega] at a1
      have a2 := pd_one pfR (f := Q') (k := k) (E - 1 - k) (fun i h3 h4 => q3 i (by omega) (by omega))
      rw [show k + (E - 1 - k) = E - 1 by omega] at a2
      have a3 : pdG pfR Q' E = (letI := pfR; pdG pfR Q' (E - 1) * Q' (E - 1)) := by
        obtain ⟨m, rfl⟩ : ∃ m, E = m + 1 := ⟨E - 1, by omega⟩
        rfl
      rw [a1, a3, a2, q2, pd_congr pfR (h := Q) k q1]
      show asc p (pm R (pdG pfR Q k).1) (pm (pdG pfR Q k).1 Rf.1)
      rw [hRf, pmc]; exact asc.refl _ _
    · have hj5 : eq5 s (j + 1) = s + 27 + 2 * (j + 1) := rfl
      by_cases w : j < k
      · have e3 : gfin g k E j = g j := if_pos w
        rw [e3, q1 j w]
        obtain ⟨a, b, c⟩ := g14 j w
        have hne : eq5 s (j + 1) ≠ eq5 s E := by omega
        exact ⟨a.keep (c1.i hne) (c1.l hne), fun w2 => by rw [pl_keep (c1.l hne)]; exact b w2, c⟩
      · by_cases w2 : j = E - 1
        · subst w2
          rw [hgE, q2, show E - 1 + 1 = E by omega]
          refine ⟨Or.inr ⟨hE0, n1, by rw [p1]; exact g7, by rw [p1]; exact g8, ?_⟩, fun _ => by rw [hRf, p1], fun z => by omega⟩
          exact sd_irr hP.1 (by show IrM p (pl L1 (eq5 s E)) E; rw [p1]; exact hir)
        · rw [hg0 j (by omega) w2, q3 j (by omega) w2]
          have hne : eq5 s (j + 1) ≠ eq5 s E := by omega
          exact ⟨Or.inl ⟨rfl, (g15 (j + 1) (by omega) (Or.inr (by omega))).ch c1 hne⟩, fun z => absurd z (by omega), fun _ => rfl⟩
    · rw [c1.i (by omega)]; exact g16
    · by_cases w2 : j = E - 1
      · subst w2; exact Or.inr (by rw [hgE]; omega)
      · exact Or.inl (hg0 j hj w2)
end
