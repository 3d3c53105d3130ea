/-! BOTH SIDES, call by call -/
section
variable {K : Cx} {I : TI} {L : TL} {A : TA}
theorem pp_uniq {f g g' : PP} (hp : Pf f) (h : ppA f g) (h' : ppA f g') : g = g' := by
  rcases h with ⟨z, e⟩ | ⟨hz, h1, c, d, c0, e1, d1, p1⟩ <;> rcases h' with ⟨z', e'⟩ | ⟨hz', h1', c', d', c0', e1', d1', p1'⟩
  · rw [e, e']
  · exact absurd z hz'
  · exact absurd z' hz
  · have hg : Pf g := ⟨d + 1, d1.2⟩
    have hg' : Pf g' := ⟨d' + 1, d1'.2⟩
    have hd : dgI f d := ⟨by rw [e1]; exact Int.mul_ne_zero c0 d1.1, fun k hk => by rw [e1]; show c * g k = 0; rw [d1.2 k hk, Int.mul_zero]⟩
    have hd' : dgI f d' := ⟨by rw [e1']; exact Int.mul_ne_zero c0' d1'.1, fun k hk => by rw [e1']; show c' * g' k = 0; rw [d1'.2 k hk, Int.mul_zero]⟩
    have ed := hd.uniq hd'
    subst ed
    have hv : dv g (pc c' g') := by
      rw [← e1', e1]
      exact ⟨pk0 c, Pf.k c, pm_k_r g c⟩
    obtain ⟨k, hk, ek⟩ := prim_same h1 h1' d1 d1' (gauss h1 hg' _ c' rfl c0' hv)
    rcases hk with rfl | rfl
    · rw [ek]; funext k; show g k = 1 * g k; omega
    · rw [ek] at p1'
      have : (-1 : Int) * g d > 0 := p1'
      omega
theorem keepA_u {P P' P'' : Nat → PP} {t : Nat} {R : PP} {v v' : Int32} (h : keepA P t R v P') (h' : keepA P t R v' P'') : v = v' ∧ P' = P'' := by
  rcases h with ⟨a, b, c⟩ | ⟨a, b, c⟩ <;> rcases h' with ⟨a', b', c'⟩ | ⟨a', b', c'⟩
  · exact ⟨b.trans b'.symm, c.trans c'.symm⟩
  · exact absurd a a'
  · exact absurd a' a
  · exact ⟨b.trans b'.symm, c.trans c'.symm⟩
theorem divA_u {P P' P'' : Nat → PP} {t a b : Nat} {v v' : Int32} (hb : Pf (P b)) (h : divA P t a b v P') (h' : divA P t a b v' P'') : v = v' ∧ P' = P'' := by
  rcases h with ⟨z, e1, e2⟩ | ⟨z, q, hq, eq, hk⟩ | ⟨z, hn, e1, e2⟩ <;> rcases h' with ⟨z', e1', e2'⟩ | ⟨z', q', hq', eq', hk'⟩ | ⟨z', hn', e1', e2'⟩
  · exact ⟨e1.trans e1'.symm, e2.trans e2'.symm⟩
  · exact absurd z z'
  · exact absurd z z'
  · exact absurd z' z
  · rw [pm_cancel hb z hq hq' (eq.trans eq'.symm)] at hk
    exact keepA_u hk hk'
  · exact absurd ⟨q, hq, eq⟩ hn'
  · exact absurd z' z
  · exact absurd ⟨q', hq', eq'⟩ hn
  · exact ⟨e1.trans e1'.symm, e2.trans e2'.symm⟩
theorem ppA_pf {f g : PP} (h : ppA f g) : Pf g := by
  rcases h with ⟨-, rfl⟩ | ⟨-, -, -, d, -, -, h, -⟩
  · exact Pf.z
  · exact ⟨d + 1, h.2⟩
theorem comA_u {P P' P'' : Nat → PP} {t a b : Nat} {v v' : Int32} (ha : Pf (P a)) (hb : Pf (P b)) (h : comA P t a b v P') (h' : comA P t a b v' P'') : v = v' ∧ P' = P'' := by
  obtain ⟨f, g, R, h1, h2, h3, h4⟩ := h
  obtain ⟨f', g', R', h1', h2', h3', h4'⟩ := h'
  have ef := pp_uniq ha h1 h1'
  have eg := pp_uniq hb h2 h2'
  subst ef; subst eg
  have eR : R = R' := by
    rcases h3 with ⟨z, e⟩ | ⟨z, z2, e⟩ | ⟨z, z2, e⟩ <;> rcases h3' with ⟨z', e'⟩ | ⟨z', z2', e'⟩ | ⟨z', z2', e'⟩
    · exact e.trans e'.symm
    · exact absurd z z'
    · exact absurd z z'
    · exact absurd z' z
    · exact e.trans e'.symm
    · exact absurd z2 z2'
    · exact absurd z' z
    · exact absurd z2' z2
    · exact gcd_unique (ppA_pf h1) (ppA_pf h2) (Or.inl z) e e'
  rw [eR] at h4
  exact keepA_u h4 h4'
/-- a call that changes one slot -/
theorem jt_rel {x : Nat} {ok ok' : Prop} {rel : (Nat → PP) → Int32 → (Nat → PP) → Prop} {y6 y7 : MethodName} {w6 w7 : List Cond} {f6 l6 f7 l7 : Nat} {as : List Value} (hok : ok ↔ ok') (hu : ∀ P : Nat → PP, (∀ j, j < 8 → Pf (P j)) → ∀ v P' v' P'', ok' → rel P v P' → rel P v' P'' → v = v' ∧ P' = P'') (hG : Gd x I L A)
    (h6 : ∀ P, Slots x I L A P → ok → ConI K y6 w6 f6 l6 I L A (.ref x :: as) (fun v I' L' A' => (∃ P', rel P v P' ∧ Slots x I' L' A P') ∧ FrD x I I' L L' ∧ A' = A))
    (h7 : ∀ P I1 L1 A1, RSlots (x + 124) L1 P → ConI K y7 w7 f7 l7 I1 L1 A1 (.ref (x + 124) :: as) (refP (x + 124) ok' (rel P) I1 L1 A1)) : JT K x ok y6 w6 f6 l6 y7 w7 f7 l7 as I L A (Gd x) := by
  obtain ⟨P, c, q, n, ct, l, hd, hr, hq7⟩ := id hG
  refine ⟨_, h6 P hd.1, fun v I1 L1 A1 hq => ?_⟩
  have hr1 : GR (x + 124) P c q n ct l I1 L1 := by
    rcases hq with ⟨-, -, r, L0, ⟨-, hF, -⟩, e1⟩ | ⟨-, -, e1, e2, e3⟩
    · refine hr.keep (fun y a b => ?_)
      have := hF y (by omega) (by omega)
      exact ⟨this.1, by rw [e1, u2_off _ _ (by omega)]; exact this.2⟩
    · rw [e1, e2]; exact hr
  refine ⟨_, h7 P I1 L1 A1 hr1.1, fun r I2 L2 A2 hq2 => ?_⟩
  rcases hq with ⟨hk, rfl, r0, L0, ⟨⟨P1, rel1, hs1⟩, hF, rfl⟩, e1⟩ | ⟨hk, rfl, rfl, rfl, rfl⟩
  · rcases hq2 with ⟨hk', ⟨P2, rel2, hs2⟩, th, fM, rfl⟩ | ⟨hk', -, -, -⟩
    · obtain ⟨ev, eP⟩ := hu P (fun j hj => ⟨7, (hd.1 j hj).2.2.2.1⟩) _ _ _ _ hk' rel1 rel2
      subst ev; subst eP
      have hd1 : GD x P1 c q n ct l I1 L0 A2 := ⟨hs1, hd.2.1, hd.2.2.1.at hd.2.1 (fun y a b => hF y (by omega) (by omega)), hd.2.2.2.at (by rw [(hF x (by omega) (by omega)).1]) (hF (x + 39) (by omega) (by omega)).1⟩
      have := both hd1 e1 fM.1 rfl (hr1.tf hs2 fM.2.2) hq7
      exact ⟨this.1, th, fun _ => this.2⟩
    · exact absurd (hok.mp hk) hk'
  · rcases hq2 with ⟨hk', -⟩ | ⟨hk', e1, e2, e3⟩
    · exact absurd (hok.mpr hk') hk
    · have := both_no hG e1 e2 e3
      exact ⟨this.1, this.2, fun z => absurd z (by decide)⟩
theorem oS_ix {a : Int32} (h : oS a) : a = nI (ix a) ∧ ix a < 8 := by
  obtain ⟨j, hj, e⟩ := okS_n (oS_ok.mp h)
  rw [e, ixn (by omega)]
  exact ⟨rfl, hj⟩
theorem j_add {x : Nat} (hb : ShB K x) (hG : Gd x I L A) (a1 a2 a3 a4 a5 : Int32) : JT K x (o3 a1 a2 a3 ∧ oW a4 10 ∧ oW a5 10) yX6_add wsX6_add 3 82 yX7_add wsX7_add 2 46 [.int a1, .int a2, .int a3, .int a4, .int a5] I L A (Gd x) := by
  refine jt_rel (ok' := okS a1 ∧ okS a2 ∧ okS a3 ∧ okI a4 (-10) 10 ∧ okI a5 (-10) 10) (rel := fun P v P' => keepA P (ix a1) (pa (pc a4.toInt (P (ix a2))) (pc a5.toInt (P (ix a3)))) v P') ?_ (fun P _ v P' v' P'' _ h h' => keepA_u h h') hG (fun P hs hk => ?_) (fun P I1 L1 A1 hs => m_add hb.2.1 hs)
  · rw [← oS_ok, ← oS_ok, ← oS_ok, ← oW_10, ← oW_10]
    exact ⟨fun h => ⟨h.1.1, h.1.2.1, h.1.2.2, h.2.1, h.2.2⟩, fun h => ⟨⟨h.1, h.2.1, h.2.2.1⟩, h.2.2.2.1, h.2.2.2.2⟩⟩
  · obtain ⟨e1, k1⟩ := oS_ix hk.1.1
    obtain ⟨e2, k2⟩ := oS_ix hk.1.2.1
    obtain ⟨e3, k3⟩ := oS_ix hk.1.2.2
    have h4 := oW_10.mp hk.2.1
    have h5 := oW_10.mp hk.2.2
    have := s_add (p := a4) (q := a5) hb.1.1 hs k1 k2 k3 h4 h5
    rw [← e1, ← e2, ← e3] at this
    exact this
theorem j_multiply {x : Nat} (hb : ShB K x) (hG : Gd x I L A) (a1 a2 a3 : Int32) : JT K x (o3 a1 a2 a3) yX6_multiply wsX6_multiply 3 82 yX7_multiply wsX7_multiply 2 46 [.int a1, .int a2, .int a3] I L A (Gd x) := by
  refine jt_rel (ok' := okS a1 ∧ okS a2 ∧ okS a3) (rel := fun P v P' => keepA P (ix a1) (pm (P (ix a2)) (P (ix a3))) v P') ?_ (fun P _ v P' v' P'' _ h h' => keepA_u h h') hG (fun P hs hk => ?_) (fun P I1 L1 A1 hs => m_multiply hb.2.1 hs)
  · rw [← oS_ok, ← oS_ok, ← oS_ok]
  · obtain ⟨e1, k1⟩ := oS_ix hk.1
    obtain ⟨e2, k2⟩ := oS_ix hk.2.1
    obtain ⟨e3, k3⟩ := oS_ix hk.2.2
    have := s_multiply hb.1.1 hs k1 k2 k3
    rw [← e1, ← e2, ← e3] at this
    exact this
theorem j_divide {x : Nat} (hb : ShB K x) (hG : Gd x I L A) (a1 a2 a3 : Int32) : JT K x (o3 a1 a2 a3) yX6_divide wsX6_divide 3 92 yX7_divide wsX7_divide 3 74 [.int a1, .int a2, .int a3] I L A (Gd x) := by
  refine jt_rel (ok' := okS a1 ∧ okS a2 ∧ okS a3) (rel := fun P v P' => divA P (ix a1) (ix a2) (ix a3) v P') ?_ (fun P hp v P' v' P'' hk h h' => divA_u (hp _ (oS_ix (oS_ok.mpr hk.2.2)).2) h h') hG (fun P hs hk => ?_) (fun P I1 L1 A1 hs => m_divide hb.2.1 hs)
  · rw [← oS_ok, ← oS_ok, ← oS_ok]
  · obtain ⟨e1, k1⟩ := oS_ix hk.1
    obtain ⟨e2, k2⟩ := oS_ix hk.2.1
    obtain ⟨e3, k3⟩ := oS_ix hk.2.2
    have := s_divide hb.1.1 hs k1 k2 k3
    rw [← e1, ← e2, ← e3] at this
    exact this
theorem j_common {x : Nat} (hb : ShB K x) (hG : Gd x I L A) (a1 a2 a3 : Int32) : JT K x (o3 a1 a2 a3) yX6_common wsX6_common 5 146 yX7_common wsX7_common 7 170 [.int a1, .int a2, .int a3] I L A (Gd x) := by
  refine jt_rel (ok' := okS a1 ∧ okS a2 ∧ okS a3) (rel := fun P v P' => comA P (ix a1) (ix a2) (ix a3) v P') ?_ (fun P hp v P' v' P'' hk h h' => comA_u (hp _ (oS_ix (oS_ok.mpr hk.2.1)).2) (hp _ (oS_ix (oS_ok.mpr hk.2.2)).2) h h') hG (fun P hs hk => ?_) (fun P I1 L1 A1 hs => m_common hb.2.1 hs)
  · rw [← oS_ok, ← oS_ok, ← oS_ok]
  · obtain ⟨e1, k1⟩ := oS_ix hk.1
    obtain ⟨e2, k2⟩ := oS_ix hk.2.1
    obtain ⟨e3, k3⟩ := oS_ix hk.2.2
    have := s_common hb.1.1 hs k1 k2 k3
    rw [← e1, ← e2, ← e3] at this
    exact this
theorem j_derive {x : Nat} (hb : ShB K x) (hG : Gd x I L A) (a1 a2 : Int32) : JT K x (oS a1 ∧ oS a2) yX6_derive wsX6_derive 3 82 yX7_derive wsX7_derive 2 46 [.int a1, .int a2] I L A (Gd x) := by
  refine jt_rel (ok' := okS a1 ∧ okS a2) (rel := fun P v P' => keepA P (ix a1) (drv (P (ix a2))) v P') ?_ (fun P _ v P' v' P'' _ h h' => keepA_u h h') hG (fun P hs hk => ?_) (fun P I1 L1 A1 hs => m_derive hb.2.1 hs)
  · rw [← oS_ok, ← oS_ok]
  · obtain ⟨e1, k1⟩ := oS_ix hk.1
    obtain ⟨e2, k2⟩ := oS_ix hk.2
    have := s_derive hb.1.1 hs k1 k2
    rw [← e1, ← e2] at this
    exact this
theorem oK_ix {a : Int32} (h : oK a) : a = nI (ix a) ∧ ix a < 7 := by
  have h1 := oK_ok.mp h
  have h2 : 0 ≤ a.toInt := h1.1
  have h3 : a.toInt ≤ 6 := h1.2
  have h4 : a.toInt = ((a.toInt.toNat : Nat) : Int) := by omega
  rw [ix_of h4]
  exact ⟨eqn h4, by omega⟩
theorem j_set {x : Nat} (hb : ShB K x) (hG : Gd x I L A) (a1 a2 a3 : Int32) : JT K x (oS a1 ∧ oK a2 ∧ oW a3 300) yX6_set wsX6_set 2 61 yX7_set wsX7_set 1 22 [.int a1, .int a2, .int a3] I L A (Gd x) := by
  refine jt_rel (ok' := okS a1 ∧ okI a2 0 6 ∧ okI a3 (-300) 300) (rel := fun P v P' => v = dgA (setA P (ix a1) (ix a2) a3.toInt (ix a1)) ∧ P' = setA P (ix a1) (ix a2) a3.toInt) ?_ (fun P _ v P' v' P'' _ h h' => ⟨h.1.trans h'.1.symm, h.2.trans h'.2.symm⟩) hG (fun P hs hk => ?_) (fun P I1 L1 A1 hs hK sz => ?_)
  · rw [← oS_ok, ← oK_ok, ← oW_300]
  · obtain ⟨e1, k1⟩ := oS_ix hk.1
    obtain ⟨e2, k2⟩ := oK_ix hk.2.1
    have h3 := oW_300.mp hk.2.2
    have := s_set (c := a3) hb.1.1 hs k1 k2 h3.1 h3.2
    rw [← e1, ← e2] at this
    exact ConI.mono this (fun v I' L' A' h => ⟨⟨_, ⟨h.1, rfl⟩, h.2.1⟩, h.2.2.1, h.2.2.2⟩)
  · refine ConI.mono (m_set (i := a1) (k := a2) (c := a3) hb.2.1 hs) (fun v I' L' A' h => ?_) hK sz
    rcases h with ⟨hk, h1, h2, rfl, hR, rfl⟩ | h
    · exact Or.inl ⟨hk, ⟨_, ⟨h1, rfl⟩, h2⟩, u2_self _ _ _ _, ⟨fun y hy => ⟨u2_off _ _ (by omega), hR.1 y (by omega)⟩, u2_self _ _ _ _, TF.of (fun k hk => u2_ne _ _ (fun e => hk e.2)) (fun y a b => u2_off _ _ (by omega)) (hR.1 _ (by omega))⟩, rfl⟩
    · exact Or.inr h
end
