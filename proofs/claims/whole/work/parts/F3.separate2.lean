/-! THE SPLITTER: separate -/
section
variable {K : Cx} {I : TI} {L : TL} {A : TA}
/-- the pieces so far -/
def PcS (p s : Nat) (I : TI) (L : TL) (h : Nat → PF) (e : Nat → Nat) (cnt : Nat) : Prop := I s 9 = nI cnt ∧ cnt ≤ 6 ∧ ∀ j, j < cnt → Pc1 p I L (pc5 s j) (h j) (e j)
theorem li1e6i : (1000000 : Int32).toInt = 1000000 := by decide
theorem sgm_cnt {e : Nat → Nat} : ∀ n, (∀ j, j < n → 0 < e j) → n ≤ sgm e n
  | 0, _ => Nat.le_refl _
  | n + 1, h => by
    have := sgm_cnt n (fun j hj => h j (by omega))
    have := h n (by omega)
    rw [sgm]; omega
/-- what separate leaves -/
def SepO (s p d cnt g : Nat) (E : PF) (h : Nat → PF) (e : Nat → Nat) (I0 : TI) (L0 : TL) (I : TI) (L : TL) : Prop := ∃ (h1 : Nat → PF) (e1 : Nat → Nat) (c1 : Nat), PcS p s I L h1 e1 c1 ∧ cnt ≤ c1 ∧ (∀ j, j < cnt → h1 j = h j ∧ e1 j = e j) ∧ (∀ j, cnt ≤ j → j < c1 → MI p d (h1 j) ∧ e1 j = d) ∧ (g = 0 → c1 = cnt) ∧ (0 < g → Zc p (letI := pfR; E - pdG pfR (fun j => h1 (cnt + j)) (c1 - cnt))) ∧ sgm e1 c1 = sgm e cnt + g ∧ ChI s (FrSp s) I0 I L0 L ∧ L (s + 1) = L0 (s + 1)
theorem SepI.out {s p c d cnt g c1 : Nat} {E : PF} {h h1 : Nat → PF} {e e1 b : Nat → Nat} {I0 : TI} {L0 : TL} (hp : Pr (p : Int)) (hd : 0 < d) (hI : SepI s p c d cnt E h e (sgm e cnt + g) I0 L0 I L h1 e1 c1 b) (hall : ∀ j, cnt ≤ j → j < c1 → e1 j = d) (hg : 0 < g) : SepO s p d cnt g E h e I0 L0 I L := by
  obtain ⟨a1, a2, a3, a4, a5, a6, a7, a8, a9, a10⟩ := hI
  refine ⟨h1, e1, c1, ⟨a1, a3, a4⟩, by omega, a5, fun j h2 h3 => ⟨?_, hall j h2 h3⟩, fun z => by omega, fun _ => a7, a8, a9, a10⟩
  have hpc := a4 j h3
  have hed := hall j h2 h3
  have hmd := hpc.mdp
  have hdg := hpc.dg
  have hl := hpc.2.2.2.1
  rw [hed] at hmd hdg hl
  exact ⟨sd_least hp (a6 j h2 h3).1 hmd hd, hdg.2, hl⟩
set_option maxHeartbeats 4000000 in
theorem s_separate {s p c d n cnt g : Nat} {F : PP} {h : Nat → PF} {e : Nat → Nat} (hs : isX5 K s) (hA : AX5 A s) (hP : Pm p) (hp3 : 33554467 ≤ p) (hp4 : p ≤ 33555000) (hc : 2 * c + 1 = p) (hm : mdl L (s + 1) = p) (hd1 : 1 ≤ d) (hd6 : d ≤ 6) (hn6 : n ≤ 6) (hpc : PcS p s I L h e cnt) (heq : EQ1 p I L (eq5 s d) d g) (hT : sgm e cnt + g ≤ 6) (hEF : 0 < g → dmP p (pl L (eq5 s d)) F) (hcj : d < g → d ≤ 3 ∧ ∀ j, 1 ≤ j → j < d → CJ1 p n F I L (cj s j) j) : ConV K yX5_separate wsX5_separate 5 118 I L A [.ref s, .int (nI d)] (fun I' L' A' => SepO s p d cnt g (plF L (eq5 s d)) h e I L I' L' ∧ A' = A) := by
  have hed5 : eq5 s d = s + 27 + 2 * d := rfl
  have hpk : ∀ j, pc5 s j = s + 42 + 2 * j := fun _ => rfl
  obtain ⟨h9, hc6, hpcs⟩ := hpc
  apply w_X5_separate
  unfold wp_X5_separate
  refine ⟨hs.1, fun v15 e15 => ?_⟩
  rw [h9] at e15
  subst e15
  refine ⟨hs.eqa (show d < 7 by omega) (tI (by omega)), ?_⟩
  rw [ixn (by omega), hA.2.1 d (by omega)]
  have hrow := hs.eqr (show d < 7 by omega)
  have keep : SepO s p d cnt g (plF L (eq5 s d)) h e I L I L ↔ g = 0 ∨ SepO s p d cnt g (plF L (eq5 s d)) h e I L I L := ⟨fun h => Or.inr h, fun h => by
    rcases h with z | z
    · exact ⟨h, e, cnt, ⟨h9, hc6, hpcs⟩, Nat.le_refl _, fun _ _ => ⟨rfl, rfl⟩, fun j h2 h3 => by omega, fun _ => rfl, fun w => by omega, by omega, ChI.refl _ _ _ _, rfl⟩
    · exact z⟩
  refine ⟨hrow.1, fun z => ?_, fun z => ?_⟩
  · refine ⟨keep.mpr (Or.inl ?_), rfl⟩
    rcases heq with ⟨q1, q2⟩ | ⟨q1, q2, q3, q4, q5⟩
    · exact q1
    · exfalso
      have h12 := q2.1.2.1
      rw [q2.1.1, tp_s, ilt, tI (by omega), tI (by omega)] at z
      have := Nat.le_of_dvd q1 (sd_dvd hP.1 g _ q5 (rsd_md q3 q2.dg))
      omega
  rcases heq with ⟨q1, q2⟩ | ⟨q1, q2, q3, q4, q5⟩
  · exfalso
    rw [q2.1.1, tp_0, ilt, lim1, tI (by omega)] at z
    omega
  have h12 := q2.1.2.1
  have hdvd := sd_dvd hP.1 g _ q5 (rsd_md q3 q2.dg)
  have hcs := sgm_cnt cnt (fun j hj => (hpcs j hj).2.2.2.2)
  have hcnt : cnt < 6 := by omega
  refine ⟨fun w => ?_, fun w => absurd (by rw [ilt, tI (by omega), li6]; omega) w⟩
  have hrc := hs.pcr hcnt
  have hpc' := hpk cnt
  refine ⟨hs.pca hcnt (tI (by omega)), hs.eqa (show d < 7 by omega) (tI (by omega)), ?_⟩
  rw [ixn (by omega), hA.2.2 cnt hcnt]
  refine ⟨hrc.1, _, s_become hrc hrow, ?_⟩
  rintro I1 L1 A1 ⟨e1, e1', rfl⟩ I2 e2
  have c1 : ChR (· = pc5 s cnt) I I1 L L1 := by rw [e1, e1']; exact become_ch
  have k2 : ∀ y, y ≠ s → I2 y = I1 y := fun y hy => by rw [e2, u2_off _ _ hy]
  have h92 : I2 s 9 = nI (cnt + 1) := by rw [e2, u2_self, c1.i (by omega), h9, sI]
  have pE : pl L1 (pc5 s cnt) = (plF L (eq5 s d)).1 := by show _ = pl L (eq5 s d); unfold pl; rw [e1', us_self]
  have nE : RowN I2 L1 (pc5 s cnt) (g + 1) := ⟨⟨by rw [k2 _ (by omega), e1, u2_self]; exact q2.1.1, q2.1.2.1, fun j h3 h4 => by rw [e1', us_self]; exact q2.1.2.2 j h3 h4⟩, fun e' he => by rw [pE]; exact q2.2 e' he⟩
  have hnd : ¬ nI d = 0 := fun q => by
    have := congrArg Int32.toInt q
    rw [tI (by omega), li0] at this
    omega
  refine ⟨hs.eqa (show d < 7 by omega) (tI (by omega)), ?_⟩
  rw [hA.2.1 d (by omega)]
  refine ⟨hrow.1, hnd, fun v30 e30 => ?_⟩
  have htop : I2 (eq5 s d) 1 = nI g := by rw [k2 _ (by omega), c1.i (by omega), q2.1.1, tp_s]
  have hgd : g / d ≤ g := Nat.div_le_self g d
  have h30 : v30.toInt = ((cnt + g / d : Nat) : Int) := by
    rw [e30, htop, idiv_n (by omega) (by omega)]
    exact iadd_n (tI (by omega)) (tI (by omega)) (by omega)
  have hv30 := eqn h30
  have start : SepI s p c d cnt (plF L (eq5 s d)) h e (sgm e cnt + g) I L I2 L1 (upN h cnt (plF L (eq5 s d))) (upN e cnt g) (cnt + 1) (fun _ => 0) := by
    have u1 : ∀ j, j ≠ cnt → upN h cnt (plF L (eq5 s d)) j = h j := fun j hj => if_neg hj
    have u2' : upN h cnt (plF L (eq5 s d)) cnt = plF L (eq5 s d) := if_pos rfl
    have w1 : ∀ j, j ≠ cnt → upN e cnt g j = e j := fun j hj => if_neg hj
    have w2 : upN e cnt g cnt = g := if_pos rfl
    refine ⟨h92, by omega, by omega, fun j hj => ?_, fun j hj => ⟨u1 j (by omega), w1 j (by omega)⟩, fun j h2 h3 => ?_, ?_, ?_, ?_, c1.2 (s + 1) (fun r hr => by omega)⟩
    · by_cases q : j = cnt
      · rw [q, u2', w2]; exact ⟨nE, pE, q3, q4, q1⟩
      · rw [u1 j q, w1 j q]
        have := hpk j
        exact (hpcs j (by omega)).keep (by rw [k2 _ (by omega), c1.i (by omega)]) (c1.l (by omega))
    · have : j = cnt := by omega
      rw [this, u2']
      exact ⟨q5, dmP.refl _ _, fun s' hs' => absurd hs' (Nat.not_lt_zero _)⟩
    · rw [show cnt + 1 - cnt = 0 + 1 by omega]
      simp only [pdG]
      rw [Nat.add_zero, u2']
      refine (zc_idl (p : Int)).of (zc_idl (p : Int)).1 ?_
      letI := pfR
      grind
    · rw [sgm, w2, sgm_congr cnt (fun j hj => w1 j (by omega))]
    · exact ⟨fun y h2 h3 => by rw [k2 y h2]; exact c1.i (fun q => h3 (by unfold FrSp; omega)), fun y hy => c1.2 y (fun r hr => hy r (by unfold FrSp; omega))⟩
  unfold wp_X5_separate_67
  refine ⟨fun μ I' L' A' y2 y3 y4 => ∃ (sh : Nat) (h1 : Nat → PF) (e1 : Nat → Nat) (k : Nat), sh + μ = 1000000 ∧ y2 = nI cnt ∧ y3 = nI (cnt + g / d) ∧ y4 = nI sh ∧ SepI s p c d cnt (plF L (eq5 s d)) h e (sgm e cnt + g) I L I' L' h1 e1 k (fun _ => sh) ∧ A' = A1, 1000000, ⟨0, _, _, cnt + 1, rfl, rfl, hv30, rfl, start, rfl⟩, ?_⟩
  rintro μ C hC I3 L3 A3 _ _ _ ⟨sh, h1, e1, k, hsh, rfl, rfl, rfl, hS, rfl⟩
  have hk := hS.2.1
  have hk6 := hS.2.2.1
  have hk9 := hS.1
  have hdue : cnt + g / d ≤ k → SepO s p d cnt g (plF L (eq5 s d)) h e I L I3 L3 := fun hle => by
    refine hS.out hP.1 (by omega) (hS.due hP.1 rfl ?_) q1
    have h5 : g / d * d ≤ (k - cnt) * d := Nat.mul_le_mul_right d (by omega)
    rw [Nat.div_mul_cancel hdvd] at h5
    exact h5
  refine ⟨fun z1 => ⟨?_, rfl⟩, fun z1 => ⟨hs.1, fun z2 => ⟨hdue ?_, rfl⟩, fun z2 => ?_⟩⟩
  · rw [ile, li1e6i, tI (by omega)] at z1
    by_cases hdg : d < g
    · obtain ⟨hd3, -⟩ := hcj hdg
      refine hS.out hP.1 (by omega) (fun j h2 h3 => ?_) q1
      have hpcj := hS.2.2.2.1 j h3
      obtain ⟨x1, x2, x3⟩ := hS.2.2.2.2.2.1 j h2 h3
      exact no_shift hP.1 hc hp3 hp4 hd3 x1 hpcj.mdp hpcj.2.2.2.2 (fun s' hs' => x3 s' (by show s' < sh; omega))
    · have hgd' : g = d := by
        have := Nat.le_of_dvd q1 hdvd
        omega
      refine hdue ?_
      rw [hgd', Nat.div_self (by omega)]; omega
  · rw [hk9, ile, tI (by omega), tI (by omega)] at z2
    omega
  · rw [hk9, ile, tI (by omega), tI (by omega)] at z2
    rw [ile, li1e6i, tI (by omega)] at z1
    have hdg : d < g := by
      rcases Nat.lt_or_ge d g with q | q
      · exact q
      · exfalso
        have : g = d := by
          have := Nat.le_of_dvd q1 hdvd
          omega
        rw [this, Nat.div_self (by omega)] at z2
        omega
    obtain ⟨hd3, hcjs⟩ := hcj hdg
    refine fun v13 e13 => ?_
    rw [hk9] at e13
    subst e13
    exact s_sep_in hs hA hP hp3 hc hm hd1 hd3 (by omega) hn6 hT (hEF q1) hcjs hS (fun I' L' h2 e2 c2 hS2 => hC (μ - 1) _ _ _ _ _ _ (by omega) ⟨sh + 1, h2, e2, c2, by omega, rfl, rfl, rfl, hS2, rfl⟩)
end
