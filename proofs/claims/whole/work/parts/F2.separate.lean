/-! THE SPLITTER: separate -/
section
variable {K : Cx} {I : TI} {L : TL} {A : TA}
theorem sgm_split (e : Nat → Nat) (k : Nat) : ∀ m, sgm e (k + m) = sgm e k + sgm (fun j => e (k + j)) m
  | 0 => rfl
  | m + 1 => by rw [← Nat.add_assoc, sgm, sgm_split e k m, sgm]; omega
/-- what separating may write -/
def FrSp (s : Nat) : Nat → Prop := fun y => (s + 1 ≤ y ∧ y ≤ s + 15 ∧ y ≠ s + 7 ∧ y ≠ s + 9) ∨ (s + 42 ≤ y ∧ y < s + 53)
def SepI (s p c d cnt : Nat) (E : PF) (h : Nat → PF) (e : Nat → Nat) (T : Nat) (I0 : TI) (L0 : TL) (I : TI) (L : TL) (h1 : Nat → PF) (e1 : Nat → Nat) (c1 : Nat) (b : Nat → Nat) : Prop :=
  I s 9 = nI c1 ∧ cnt < c1 ∧ c1 ≤ 6 ∧ (∀ j, j < c1 → Pc1 p I L (pc5 s j) (h1 j) (e1 j)) ∧ (∀ j, j < cnt → h1 j = h j ∧ e1 j = e j) ∧ (∀ j, cnt ≤ j → j < c1 → Sd p d (h1 j) ∧ dmP p (h1 j).1 E.1 ∧ ∀ s' : Nat, s' < b j → npt p c d s' (h1 j)) ∧ Zc p (letI := pfR; E - pdG pfR (fun j => h1 (cnt + j)) (c1 - cnt)) ∧ sgm e1 c1 = T ∧ ChI s (FrSp s) I0 I L0 L ∧ L (s + 1) = L0 (s + 1)
theorem SepI.more {s p c d cnt T c1 : Nat} {E : PF} {h h1 : Nat → PF} {e e1 b b' : Nat → Nat} {I0 : TI} {L0 : TL} (hI : SepI s p c d cnt E h e T I0 L0 I L h1 e1 c1 b) (hb : ∀ j, cnt ≤ j → j < c1 → ∀ s' : Nat, s' < b' j → s' < b j ∨ npt p c d s' (h1 j)) : SepI s p c d cnt E h e T I0 L0 I L h1 e1 c1 b' := by
  obtain ⟨a1, a2, a3, a4, a5, a6, a7, a8, a9, a10⟩ := hI
  refine ⟨a1, a2, a3, a4, a5, fun j h2 h3 => ?_, a7, a8, a9, a10⟩
  obtain ⟨x1, x2, x3⟩ := a6 j h2 h3
  refine ⟨x1, x2, fun s' hs' => ?_⟩
  rcases hb j h2 h3 s' hs' with w | w
  · exact x3 s' w
  · exact w
theorem SepI.dvd {s p c d cnt T c1 : Nat} {E : PF} {h h1 : Nat → PF} {e e1 b : Nat → Nat} {I0 : TI} {L0 : TL} (hp : Pr (p : Int)) (hI : SepI s p c d cnt E h e T I0 L0 I L h1 e1 c1 b) {j : Nat} (h2 : cnt ≤ j) (h3 : j < c1) : d ∣ e1 j ∧ 0 < e1 j := by
  obtain ⟨a1, a2, a3, a4, a5, a6, -⟩ := hI
  exact ⟨sd_dvd hp _ _ (a6 j h2 h3).1 (a4 j h3).mdp, (a4 j h3).2.2.2.2⟩
/-- as many as are due: all are irreducible -/
theorem SepI.due {s p c d cnt T c1 g : Nat} {E : PF} {h h1 : Nat → PF} {e e1 b : Nat → Nat} {I0 : TI} {L0 : TL} (hp : Pr (p : Int)) (hI : SepI s p c d cnt E h e T I0 L0 I L h1 e1 c1 b) (hT : T = sgm e cnt + g) (hdue : g ≤ (c1 - cnt) * d) : ∀ j, cnt ≤ j → j < c1 → e1 j = d := fun j h2 h3 => by
  have hI' := hI
  obtain ⟨a1, a2, a3, a4, a5, a6, a7, a8, -⟩ := hI
  have hs := sgm_split e1 cnt (c1 - cnt)
  rw [show cnt + (c1 - cnt) = c1 by omega, a8, sgm_congr cnt (fun j hj => (a5 j hj).2)] at hs
  have := sgm_all (e := fun j => e1 (cnt + j)) (d := d) (c1 - cnt) (fun j hj => by
    obtain ⟨x1, x2⟩ := hI'.dvd hp (show cnt ≤ cnt + j by omega) (show cnt + j < c1 by omega)
    exact Nat.le_of_dvd x2 x1) (by omega) (j - cnt) (by omega)
  rw [show cnt + (j - cnt) = j by omega] at this
  exact this
def bndS (sh i k : Nat) : Nat → Nat := fun j => if j < i ∨ k ≤ j then sh + 1 else sh
theorem bnd_in {sh i k j : Nat} (h : j < i ∨ k ≤ j) : bndS sh i k j = sh + 1 := if_pos h
theorem bnd_out {sh i k j : Nat} (h : ¬ (j < i ∨ k ≤ j)) : bndS sh i k j = sh := if_neg h
set_option maxHeartbeats 4000000 in
/-- all pieces at one shift -/
theorem s_sep_in {s p c d cnt sh n T c1 : Nat} {F : PP} {E : PF} {h h1 : Nat → PF} {e e1 : Nat → Nat} {I0 : TI} {L0 : TL} {x3 : Int32} {C : TI → TL → TA → Int32 → Int32 → Int32 → Prop} {Z : TI → TL → TA → Prop} (hs : isX5 K s) (hA : AX5 A s) (hP : Pm p) (hp3 : 33554467 ≤ p) (hc : 2 * c + 1 = p) (hm : mdl L0 (s + 1) = p) (hd1 : 1 ≤ d) (hd3 : d ≤ 3) (hsh : sh < 1000000) (hn6 : n ≤ 6) (hT6 : T ≤ 6) (hEF : dmP p E.1 F) (hcj : ∀ j, 1 ≤ j → j < d → CJ1 p n F I0 L0 (cj s j) j) (hI : SepI s p c d cnt E h e T I0 L0 I L h1 e1 c1 (fun _ => sh)) (hC : ∀ (I' : TI) (L' : TL) (h1 : Nat → PF) (e1 : Nat → Nat) (c1 : Nat), SepI s p c d cnt E h e T I0 L0 I' L' h1 e1 c1 (fun _ => sh + 1) → C I' L' A (nI cnt) x3 (nI (sh + 1))) : wp_X5_separate_91 K s (nI d) C I L A (nI cnt) x3 (nI sh) (nI c1) (nI cnt) Z := by
  unfold wp_X5_separate_91
  refine ⟨fun μ I' L' A' y2 y3 y4 y5 y6 => ∃ (i k : Nat) (h1 : Nat → PF) (e1 : Nat → Nat), i + μ = c1 ∧ cnt ≤ i ∧ c1 ≤ k ∧ y2 = nI cnt ∧ x3 = y3 ∧ y4 = nI sh ∧ y5 = nI c1 ∧ y6 = nI i ∧ SepI s p c d cnt E h e T I0 L0 I' L' h1 e1 k (bndS sh i c1) ∧ A' = A, c1 - cnt, ⟨cnt, c1, h1, e1, by have := hI.2.1; omega, Nat.le_refl _, Nat.le_refl _, rfl, rfl, rfl, rfl, rfl, hI.more (fun j h2 h3 s' hs' => Or.inl (by rw [bnd_out (by omega)] at hs'; exact hs')), rfl⟩, ?_⟩
  rintro μ D hD I1 L1 A1 _ _ _ _ _ ⟨i, k, h2, e2, hi, hci, hck, rfl, rfl, rfl, rfl, rfl, hS, rfl⟩
  have hS' := hS
  obtain ⟨a1, a2, a3, a4, a5, a6, a7, a8, a9, a10⟩ := hS
  refine ⟨fun z v hv => ?_, fun z => ?_⟩
  · rw [ile, tI (by omega), tI (by omega)] at z
    rw [hv, sI]
    refine hC I1 L1 h2 e2 k (hS'.more (fun j h3 h4 s' hs' => Or.inl ?_))
    rw [bnd_in (by omega)]; exact hs'
  rw [ile, tI (by omega), tI (by omega)] at z
  have hi6 : i < 6 := by omega
  have hpi : pc5 s i = s + 42 + 2 * i := rfl
  refine ⟨hs.1, hs.pca hi6 (tI (by omega)), ?_⟩
  rw [ixn (by omega), hA.2.2 i hi6]
  have hpc := a4 i (by omega)
  obtain ⟨b1, b2, b3⟩ := a6 i hci (by omega)
  have b3' : ∀ s' : Nat, s' < sh → npt p c d s' (h2 i) := fun s' hs' => b3 s' (by rw [bnd_out (by omega)]; exact hs')
  have he12 := hpc.1.1.2.1
  have hdv := hS'.dvd hP.1 hci (show i < k by omega)
  have hle := Nat.le_of_dvd hdv.2 hdv.1
  refine ⟨(hs.pcr hi6).1, fun w v hv => ?_, fun w => ?_⟩
  · rw [hpc.1.1.1, tp_s, ile, tI (by omega), tI (by omega)] at w
    have hed : e2 i = d := by omega
    refine hD (μ - 1) _ _ _ _ _ _ _ _ (by omega) ⟨i + 1, k, h2, e2, by omega, by omega, hck, rfl, rfl, rfl, rfl, by rw [hv, sI], hS'.more (fun j h3 h4 s' hs' => ?_), rfl⟩
    by_cases q : j = i
    · subst q
      exact Or.inr (npt_least hP.1 b1 (by rw [← hed]; exact hpc.mdp) hd1 s')
    · refine Or.inl ?_
      by_cases q2 : j < i ∨ c1 ≤ j
      · rw [bnd_in q2]; rw [bnd_in (by omega)] at hs'; exact hs'
      · rw [bnd_out q2]; rw [bnd_out (by omega)] at hs'; exact hs'
  · rw [hpc.1.1.1, tp_s, ile, tI (by omega), tI (by omega)] at w
    have hge := sgm_ge k i (by omega) (fun j hj => (a4 j hj).2.2.2.2)
    rw [a8] at hge
    have hk6 : k < 6 := by omega
    have hm1 : mdl L1 (s + 1) = p := by show (L1 (s + 1) 0).toInt = p; rw [a10]; exact hm
    have hcj1 : ∀ j, 1 ≤ j → j < d → CJ1 p n F I1 L1 (cj s j) j := fun j h3 h4 => by
      have : cj s j = s + 18 + 2 * j := rfl
      have hnF : ¬ FrSp s (cj s j) := fun q => by unfold FrSp at q; omega
      exact (hcj j h3 h4).keep (a9.i (by omega) hnF) (a9.l hnF)
    refine ⟨_, s_trySplit (p := p) (c := c) (n := n) (e := e2 i) (cnt := k) (F := F) (g := h2 i) hs hA hP hp3 hc hm1 hd1 hd3 hsh a1 hk6 (by omega) hpc (by omega) b1 (b2.trans hEF) hn6 hcj1, ?_⟩
    rintro I2 L2 A2 ⟨hcase, hL2, rfl⟩ v hv
    have hpj : ∀ j, pc5 s j = s + 42 + 2 * j := fun _ => rfl
    rcases hcase with ⟨hnp, h9, hpc2, cI⟩ | ⟨G, Q, eG, hnG, hnQ, pcG, pcQ, hlt, hzc, hGd, hQd, h9, cI⟩
    · refine hD (μ - 1) _ _ _ _ _ _ _ _ (by omega) ⟨i + 1, k, h2, e2, by omega, by omega, hck, rfl, rfl, rfl, rfl, by rw [hv, sI], SepI.more (b := bndS sh i c1) ⟨h9, a2, a3, fun j hj => ?_, a5, a6, a7, a8, a9.trans (cI.mono (fun y hy => Or.inl hy)), hL2.trans a10⟩ (fun j h3 h4 s' hs' => ?_), rfl⟩
      · have := hpj j
        exact (a4 j hj).keep (cI.i (by omega) (by omega)) (cI.l (by omega))
      · by_cases q : j = i
        · subst q
          rw [bnd_in (by omega)] at hs'
          by_cases q2 : s' = sh
          · rw [q2]; exact Or.inr hnp
          · exact Or.inr (b3' s' (by omega))
        · refine Or.inl ?_
          by_cases q2 : j < i ∨ c1 ≤ j
          · rw [bnd_in q2]; rw [bnd_in (by omega)] at hs'; exact hs'
          · rw [bnd_out q2]; rw [bnd_out (by omega)] at hs'; exact hs'
    · -- two pieces of one
      have u1 : ∀ j, j ≠ k → upN (upN h2 i G) k Q j = upN h2 i G j := fun j hj => if_neg hj
      have u2' : upN (upN h2 i G) k Q k = Q := if_pos rfl
      have u3 : ∀ j, j ≠ i → upN h2 i G j = h2 j := fun j hj => if_neg hj
      have u4 : upN h2 i G i = G := if_pos rfl
      have w1 : ∀ j, j ≠ k → upN (upN e2 i eG) k (e2 i - eG) j = upN e2 i eG j := fun j hj => if_neg hj
      have w2' : upN (upN e2 i eG) k (e2 i - eG) k = e2 i - eG := if_pos rfl
      have w3 : ∀ j, j ≠ i → upN e2 i eG j = e2 j := fun j hj => if_neg hj
      have w4 : upN e2 i eG i = eG := if_pos rfl
      have hSG : Sd p d G := b1.of_dv hGd ⟨_, pcG.mdp⟩
      have hSQ : Sd p d Q := b1.of_dv hQd ⟨_, pcQ.mdp⟩
      refine hD (μ - 1) _ _ _ _ _ _ _ _ (by omega) ⟨i + 1, k + 1, upN (upN h2 i G) k Q, upN (upN e2 i eG) k (e2 i - eG), by omega, by omega, by omega, rfl, rfl, rfl, rfl, by rw [hv, sI], ⟨h9, by omega, by omega, fun j hj => ?_, fun j hj => ?_, fun j h3 h4 => ?_, ?_, ?_, a9.trans (cI.mono (fun y hy => ?_)), hL2.trans a10⟩, rfl⟩
      · by_cases q : j = k
        · rw [q, u2', w2']; exact pcQ
        · rw [u1 j q, w1 j q]
          by_cases q2 : j = i
          · rw [q2, u4, w4]; exact pcG
          · rw [u3 j q2, w3 j q2]
            have := hpj j
            have := hpj k
            exact (a4 j (by omega)).keep (cI.i (by omega) (by omega)) (cI.l (by omega))
      · rw [u1 j (by omega), w1 j (by omega), u3 j (by omega), w3 j (by omega)]
        exact a5 j hj
      · by_cases q : j = k
        · rw [q, u2']
          refine ⟨hSQ, hQd.trans b2, fun s' hs' => ?_⟩
          rw [bnd_in (by omega)] at hs'
          by_cases q2 : s' = sh
          · rw [q2]; exact hnQ
          · exact (b3' s' (by omega)).of_dv hQd
        · rw [u1 j q]
          by_cases q2 : j = i
          · rw [q2, u4]
            refine ⟨hSG, hGd.trans b2, fun s' hs' => ?_⟩
            rw [bnd_in (by omega)] at hs'
            by_cases q2 : s' = sh
            · rw [q2]; exact hnG
            · exact (b3' s' (by omega)).of_dv hGd
          · rw [u3 j q2]
            obtain ⟨x1, x2, x3⟩ := a6 j h3 (by omega)
            refine ⟨x1, x2, fun s' hs' => x3 s' ?_⟩
            by_cases q3 : j < i ∨ c1 ≤ j
            · rw [bnd_in q3]; rw [bnd_in (by omega)] at hs'; exact hs'
            · rw [bnd_out q3]; rw [bnd_out (by omega)] at hs'; exact hs'
      · have hidl := zc_idl (p : Int)
        have hup := pd_up hidl (f := fun j => h2 (cnt + j)) (i := i - cnt) (a := G) (b := Q) (by
          show Zc p (letI := pfR; h2 (cnt + (i - cnt)) - G * Q)
          rw [show cnt + (i - cnt) = i by omega]; exact hzc) (k - cnt) (by omega)
        rw [show k + 1 - cnt = k - cnt + 1 by omega]
        simp only [pdG]
        rw [show cnt + (k - cnt) = k by omega, u2', pd_congr pfR (h := upN (fun j => h2 (cnt + j)) (i - cnt) G) (k - cnt) (fun j hj => by
          show upN (upN h2 i G) k Q (cnt + j) = _
          rw [u1 _ (by omega)]
          by_cases q : j = i - cnt
          · rw [show cnt + j = i by omega, u4, q]; exact (if_pos rfl).symm
          · rw [u3 _ (by omega)]; exact (if_neg q).symm)]
        exact hidl.trans a7 hup
      · have h5 := sgm_up (e := e2) (i := i) (a := eG) k (by omega)
        rw [a8] at h5
        rw [sgm, w2', sgm_congr k (fun j hj => w1 j (by omega))]
        omega
      · have := hpj i
        have := hpj k
        unfold FrSp; omega
end
