/-! FACTORING: takeApart, its loop -/
section
variable {K : Cx} {I : TI} {L : TL} {A : TA}
theorem pd_split {R : Type} (g : Lean.Grind.CommRing R) (f : Nat → R) (k : Nat) : ∀ m, pdG g f (k + m) = pdG g f k * pdG g (fun j => f (k + j)) m
  | 0 => by simp only [pdG, Nat.add_zero]; grind
  | m + 1 => by rw [← Nat.add_assoc]; simp only [pdG]; rw [pd_split g f k m]; grind
theorem pd_dv {p : Int} {Q : Nat → PF} : ∀ n j, j < n → dmP p (Q j).1 (pdG pfR Q n).1
  | 0, j, h => absurd h (Nat.not_lt_zero _)
  | n + 1, j, h => by
    by_cases w : j = n
    · subst w
      exact ⟨(pdG pfR Q j).1, (pdG pfR Q j).2, cg.refl _ _⟩
    · exact (pd_dv n j (by omega)).trans ⟨(Q n).1, (Q n).2, by show cg p (pm (pdG pfR Q n).1 (Q n).1) _; rw [pmc]; exact cg.refl _ _⟩
theorem msk_all {h : Nat → PF} : ∀ n, msk h (fun _ => true) n = pdG pfR h n
  | 0 => rfl
  | n + 1 => by rw [msk, if_pos rfl, msk_all n]; rfl
theorem asc_U {p n : Nat} (hp : Pr (p : Int)) {g x : PF} (h : asc p g.1 x.1) (hx : md p x.1 n) : ascU p g x := by
  have hg : md p g.1 n := by
    obtain ⟨d, hd⟩ := md_of g.2 (h.symm.nal hx.nal)
    rw [← h.deg hp hd hx]; exact hd
  obtain ⟨s, hs, es⟩ := h.2
  obtain ⟨k, hk⟩ := md_of hs (md_mul_r (hg.of_cg es)).1
  have := (hk.mul hp hx).uniq (hg.of_cg es)
  have hk0 : k = 0 := by omega
  subst hk0
  refine ⟨s 0, hk.1, fun j => ?_⟩
  show (p : Int) ∣ g.1 j + -1 * pm (pk0 (s 0)) x.1 j
  have h1 := (es.trans (cg.mul_l x.1 (md0 hk))) j
  rwa [show g.1 j + -1 * pm (pk0 (s 0)) x.1 j = g.1 j - pm (pk0 (s 0)) x.1 j by omega]
/-- while factors of equal degrees are separated -/
def LpI (f p n : Nat) (F : PP) (g : Nat → Nat) (Q : Nat → PF) (k : Nat) (I : TI) (L : TL) (h : Nat → PF) (e : Nat → Nat) (cnt : Nat) : Prop :=
  mdl L (f + 2) = p ∧ PcS p (f + 1) I L h e cnt ∧ (∀ j, j < cnt → MI p (e j) (h j)) ∧ Zc p (letI := pfR; pdG pfR Q k - pdG pfR h cnt) ∧ sgm e cnt = sgm g k ∧ (∀ j, k ≤ j → j < 6 → EQ1 p I L (eq5 (f + 1) (j + 1)) (j + 1) (g j) ∧ (0 < g j → (Q j).1 = pl L (eq5 (f + 1) (j + 1))) ∧ (g j = 0 → Q j = (letI := pfR; 1))) ∧ ∃ kk, kk ≤ 3 ∧ (∀ j, 1 ≤ j → j ≤ kk → CJ1 p n F I L (cj (f + 1) j) j) ∧ ∀ j, kk ≤ j → g j = 0 ∨ g j = j + 1
/-- what takeApart leaves -/
def TkO (f : Nat) (f0 : PP) (I : TI) (L : TL) (A : TA) : Prop := ∃ c q n, Fac f0 c q n ∧ srt c q ∧ FLs (f + 69) I L A c q n
set_option maxHeartbeats 4000000 in
theorem s_take_loop {f u p c n er : Nat} {F : PP} {g : Nat → Nat} {Q : Nat → PF} {f0 g0 r0 q' : PF} {q0 : Nat → PP} {n0 : Nat → Nat} {Z : TI → TL → TA → Prop} (hf : isX0 K f) (h5 : isX5 K (f + 1)) (hA5 : AX5 A (f + 1)) (ho : isX2 K (f + 69)) (hPA : PermA A (f + 69)) (hP : Pm p) (hp3 : 33554467 ≤ p) (hp4 : p ≤ 33555000) (hc : 2 * c + 1 = p) (hG : Grp (f + 1) p n F I L g Q) (hFm : md p F n) (hn6 : n ≤ 6) (hrF : asc p r0.1 F) (hsq : sqf p F) (nr : RowN I L (f + 57) (er + 1)) (pr : pl L (f + 57) = r0.1) (hrp : prim r0.1) (hr0 : 0 < r0.1 er) (hs7 : sm7 f0.1) (hpr : prim f0.1) (hb : ∃ d, RowN I L (f + 55) (d + 1)) (hpb : pl L (f + 55) = f0.1) (hpos : posL f0.1) (hfl : FLs (f + 69) I L A 0 q0 n0) (hgr : (letI := pfR; g0 * r0) = f0) (hgd : (letI := pfR; g0 * q') = dP f0)
    (hZ : ∀ (I' : TI) (L' : TL) (A' : TA), TkO f f0.1 I' L' A' → I' (f + 69) 3 = I (f + 69) 3 → PermA A' (f + 69) → (∀ y, y ≠ f + 70 → A' y = A y) → Fr (f + 1) (f + 84) I I' L L' → Z I' L' A') : wp_X0_takeApart_96 K f u I L A 1 Z := by
  have hG' := hG
  obtain ⟨g1, g2, g3, g4, g5, g6, g7, g8, kk, hkk, hcj, hgk⟩ := hG
  have hsg := hG'.deg hP.1 hFm
  unfold wp_X0_takeApart_96
  refine ⟨fun μ I' L' A' x => ∃ k h e cnt, k + μ = 6 ∧ x = nI (k + 1) ∧ LpI f p n F g Q k I' L' h e cnt ∧ Fr (f + 1) (f + 55) I I' L L' ∧ A' = A, 6, ⟨0, fun _ => (letI := pfR; 1), fun _ => 0, 0, rfl, rfl, ⟨g1, ⟨g8, by omega, fun j hj => absurd hj (Nat.not_lt_zero _)⟩, fun j hj => absurd hj (Nat.not_lt_zero _), (zc_idl (p : Int)).refl _, rfl, fun j _ hj => g6 j hj, kk, hkk, hcj, hgk⟩, Fr.refl _ _ _ _, rfl⟩, ?_⟩
  rintro μ C hC I1 L1 A1 _ ⟨k, h, e, cnt, hk, rfl, hL, fr1, rfl⟩
  obtain ⟨a1, a2, a3, a4, a5, a6, kk', hkk', hcj', hgk'⟩ := hL
  refine ⟨fun z => ?_, fun z => ?_⟩
  · -- the end
    rw [ilt, li6, tI (by omega)] at z
    have : k = 6 := by omega
    subst this
    have nr1 := nr.fr fr1 (Or.inr (by omega))
    have pr1 : pl L1 (f + 57) = r0.1 := (fr_pl fr1 (Or.inr (by omega))).trans pr
    have hfl1 := hfl.fr hPA fr1 (Or.inr (by omega))
    have hasc : ascU p r0 (msk h (fun _ => true) cnt) := by
      rw [msk_all]
      have hz : cg p (pdG pfR Q 6).1 (pdG pfR h cnt).1 := fun j => by
        have h1 : (p : Int) ∣ (pdG pfR Q 6).1 j + -1 * (pdG pfR h cnt).1 j := a4 j
        rwa [show (pdG pfR Q 6).1 j + -1 * (pdG pfR h cnt).1 j = (pdG pfR Q 6).1 j - (pdG pfR h cnt).1 j by omega] at h1
      have hmsk := msk_md (b := fun _ => true) hP.1 a3
      rw [msk_all] at hmsk
      exact asc_U hP.1 (hrF.trans (g5.trans (asc.of_cg hz))) hmsk
    have hr0f : dv r0.1 f0.1 := ⟨g0.1, g0.2, by rw [pmc]; exact congrArg Subtype.val hgr⟩
    have hf00 : f0.1 ≠ p0 := by obtain ⟨D0, hD0, -⟩ := hpos; exact hD0.ne
    refine ⟨hf.1, _, s_recombine (a := f0.1) (r0 := r0) hf h5 hA5 ho hPA hP hp3 ⟨a1, a2, nr1, pr1⟩ a3 (by omega) hs7 hf00 hr0f hrp hr0 hasc (hsq.of_dv hrF.1) hfl1, ?_⟩
    rintro I2 L2 A2 ⟨⟨c2, q2, n2, b1, b2, b3, b4⟩, h32, f2, rfl⟩
    have hb2 : ∃ d, RowN I2 L2 (f + 55) (d + 1) := by
      obtain ⟨d, hd⟩ := hb
      exact ⟨d, (hd.fr fr1 (Or.inr (by omega))).fr f2 (Or.inl (by omega))⟩
    have hpb2 : pl L2 (f + 55) = f0.1 := (fr_pl f2 (Or.inl (by omega))).trans ((fr_pl fr1 (Or.inr (by omega))).trans hpb)
    refine ⟨_, s_countEach hf ho hPA hs7 hpr hb2 hpb2 hpos b1 b2 b3 b4 hgr hgd, ?_⟩
    rintro I3 L3 A3 ⟨⟨n3, hfac, hfl3⟩, h693, f3, rfl⟩
    refine ⟨ho.1, _, s_sort ho hPA hfac hfl3, ?_⟩
    rintro I4 L4 A4 ⟨⟨q4, n4, hfac4, hfl4, hsrt⟩, hP4, hA4, hI4, rfl⟩
    refine hZ I4 L4 A4 ⟨c2, q4, n4, hfac4, hsrt, hfl4⟩ ?_ hP4 hA4 ?_
    · rw [hI4 (f + 69) (by omega), h693, h32, (fr1 (f + 69) (by omega)).1]
    · refine (fr1.mono (by omega) (by omega)).trans ((f2.mono (by omega) (by omega)).trans ((f3.mono (by omega) (by omega)).trans (fun y hy => ⟨hI4 y (by omega), rfl⟩)))
  · rw [ilt, li6, tI (by omega)] at z
    have hk6 : k < 6 := by omega
    obtain ⟨b1, b2, b3⟩ := a6 k (Nat.le_refl _) hk6
    have hle := sgm_le g (k + 1) (5 - k)
    rw [show k + 1 + (5 - k) = 6 by omega, sgm] at hle
    refine ⟨hf.1, h5.1, _, s_separate (s := f + 1) (p := p) (c := c) (d := k + 1) (n := n) (cnt := cnt) (g := g k) (F := F) (h := h) (e := e) h5 hA5 hP hp3 hp4 hc a1 (by omega) (by omega) hn6 a2 b1 (by omega) (fun h0 => ?_) (fun hlt => ?_), ?_⟩
    · rw [← b2 h0]
      exact (pd_dv 6 k hk6).trans g5.2
    · have hkkk : k < kk' := by
        rcases Nat.lt_or_ge k kk' with w | w
        · exact w
        · rcases hgk' k w with q | q <;> omega
      exact ⟨by omega, fun j h1 h2 => hcj' j h1 (by omega)⟩
    rintro I2 L2 A2 ⟨⟨h1, e1, c1, o1, o2, o3, o4, o5, o6, o7, o8, o9⟩, rfl⟩ v hv
    have heqs : ∀ j, eq5 (f + 1) j = f + 1 + 27 + 2 * j := fun _ => rfl
    have hcjs : ∀ j, cj (f + 1) j = f + 1 + 18 + 2 * j := fun _ => rfl
    have f12 : Fr (f + 1) (f + 55) I1 I2 L1 L2 := o8.fab (by omega) (fun r hr => by unfold FrSp at hr; omega)
    refine hC (μ - 1) _ _ _ _ (by omega) ⟨k + 1, h1, e1, c1, by omega, by rw [hv, sI], ⟨?_, o1, fun j hj => ?_, ?_, by rw [sgm, ← a5]; exact o7, fun j hj1 hj2 => ?_, kk', hkk', fun j hj1 hj2 => ?_, hgk'⟩, fr1.trans f12, rfl⟩
    · show (L2 (f + 2) 0).toInt = p
      rw [show f + 2 = f + 1 + 1 from rfl, o9]; exact a1
    · by_cases w : j < cnt
      · rw [(o3 j w).1, (o3 j w).2]; exact a3 j w
      · obtain ⟨m1, m2⟩ := o4 j (by omega) hj
        rw [m2]; exact m1
    · have hid := zc_idl (p : Int)
      simp only [pdG]
      have e3 := pd_split pfR h1 cnt (c1 - cnt)
      rw [show cnt + (c1 - cnt) = c1 by omega, pd_congr pfR (h := h) cnt (fun j hj => (o3 j hj).1)] at e3
      rw [e3]
      rcases Nat.eq_zero_or_pos (g k) with w | w
      · have hc1 := o5 w
        rw [b3 w, hc1, Nat.sub_self]
        exact hid.mul2 a4 (hid.refl _)
      · have e4 : Q k = plF L1 (eq5 (f + 1) (k + 1)) := Subtype.ext (b2 w)
        rw [e4]
        exact hid.mul2 a4 (o6 w)
    · obtain ⟨x1, x2, x3⟩ := a6 j (by omega) hj2
      have := heqs (j + 1)
      have hnF : ¬ FrSp (f + 1) (eq5 (f + 1) (j + 1)) := fun t => by unfold FrSp at t; omega
      exact ⟨x1.keep (o8.i (by omega) hnF) (o8.l hnF), fun w => by rw [pl_keep (o8.l hnF)]; exact x2 w, x3⟩
    · have := hcjs j
      have hnF : ¬ FrSp (f + 1) (cj (f + 1) j) := fun t => by unfold FrSp at t; omega
      exact (hcj' j hj1 hj2).keep (o8.i (by omega) hnF) (o8.l hnF)
end
