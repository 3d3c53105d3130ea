/-! THE REFERENCE: galois -/
section
variable {K : Cx} {I : TI} {L : TL} {A : TA}
def grR (f : PP) (d : Nat) (v : Int32) : Prop := (d < 3 ∧ v = nI d) ∨ (d = 3 ∧ ((v = 3 ∧ Sq (dsI (f 3) (f 2) (f 1) (f 0))) ∨ (v = 4 ∧ ¬ Sq (dsI (f 3) (f 2) (f 1) (f 0))))) ∨ (d = 4 ∧ rqA (f 4) (f 3) (f 2) (f 1) (f 0) v)
def galR (f : PP) (v : Int32) : Prop := ((∀ d, dgI f d → d < 1 ∨ 4 < d) ∧ v = 0) ∨ ∃ d c q n, dgI f d ∧ 1 ≤ d ∧ d ≤ 4 ∧ isPts f c q n (cnt f) ∧ ((¬ (c = 1 ∧ n 0 = 1) ∧ v = 0) ∨ (c = 1 ∧ n 0 = 1 ∧ grR (q 0) d v))
/-- one part alone: it is the primitive one -/
theorem one_part {f : PP} {d : Nat} {q : Nat → PP} {n : Nat → Nat} {ct : Int} (hs : sm7 f) (hd : dgI f d) (h : isPts f 1 q n ct) (hn : n 0 = 1) : (∀ k, (q 0 k).natAbs ≤ 300) ∧ dgI (q 0) d ∧ Irr (q 0) := by
  obtain ⟨f1, hpp, hfac, -, -⟩ := h
  obtain ⟨hprf, k0, d1, hk0, hfk, hd1, hd1p⟩ : prim f1 ∧ ∃ c d, c ≠ 0 ∧ f = pc c f1 ∧ dgI f1 d ∧ 0 < f1 d := by
    rcases hpp with ⟨t, -⟩ | ⟨-, h2⟩
    · exact absurd t hd.ne
    · exact h2
  have hq0 : q 0 = f1 := by
    have := hfac.1
    rw [this, prd, hn]
    show q 0 = pm (pk0 1) (pw (q 0) 1)
    rw [pm_1l, pw_1]
  have hdd : d1 = d := by
    have h1 : dgI (pc k0 f1) d1 := ⟨Int.mul_ne_zero hk0 hd1.1, fun k hk => by show k0 * _ = 0; rw [hd1.2 k hk]; simp⟩
    rw [← hfk] at h1
    exact h1.uniq hd
  subst hdd
  refine ⟨fun k => ?_, by rw [hq0]; exact hd1, (hfac.2.1 0 (by omega)).1⟩
  rw [hq0]
  have h1 : f k = k0 * f1 k := congrFun hfk k
  have h2 := hs.2 k
  have h3 : (f1 k).natAbs ≤ (k0 * f1 k).natAbs := by
    rw [Int.natAbs_mul]; exact Nat.le_mul_of_pos_left _ (by omega)
  rw [← h1] at h3
  omega
/-- both answer alike -/
theorem galois_same {f : PP} (hs : sm7 f) {v w : Int32} (h1 : galR f v) (h2 : galA f w) : v = w := by
  rcases h1 with ⟨q1, rfl⟩ | ⟨d, c, q, n, hd, hd1, hd4, hp, c1⟩
  · rcases h2 with ⟨-, rfl⟩ | ⟨d, c, q, n, hd, hd1, hd4, -⟩
    · rfl
    · have := q1 d hd; omega
  · rcases h2 with ⟨q2, rfl⟩ | ⟨d', c', q', n', hd', -, -, hp', c2⟩
    · have := q2 d hd; omega
    · have := hd.uniq hd'
      subst this
      obtain ⟨f1, hpp, hfac, hsrt, -⟩ := hp
      obtain ⟨f2, hpp', hfac', hsrt', -⟩ := hp'
      have hne : f ≠ p0 := hd.ne
      have hff : f1 = f2 := by
        rcases hpp with ⟨t, -⟩ | ⟨-, x1, k1, d1, x2, x3, x4, x5⟩
        · exact absurd t hne
        · rcases hpp' with ⟨t, -⟩ | ⟨-, y1, k2, d2, y2, y3, y4, y5⟩
          · exact absurd t hne
          · have e1 : dgI f d1 := by rw [x3]; exact ⟨Int.mul_ne_zero x2 x4.1, fun k hk => by show k1 * _ = 0; rw [x4.2 k hk]; simp⟩
            have e2 : dgI f d2 := by rw [y3]; exact ⟨Int.mul_ne_zero y2 y4.1, fun k hk => by show k2 * _ = 0; rw [y4.2 k hk]; simp⟩
            have e3 := e1.uniq e2
            subst e3
            have hdv : dv f1 f2 := by
              refine dv_of_c x1 y4.pf y2 ?_
              rw [← y3, x3]
              exact (dv.refl f1).c k1
            obtain ⟨k, hk, ek⟩ := prim_same x1 y1 x4 y4 hdv
            rcases hk with rfl | rfl
            · rw [ek]; funext j; show f1 j = 1 * f1 j; omega
            · exfalso
              rw [ek] at y5
              have : (0 : Int) < -1 * f1 d1 := y5
              omega
      subst hff
      obtain ⟨hcc, hall⟩ := fac_unique hfac hsrt hfac' hsrt'
      subst hcc
      rcases c1 with ⟨n1, rfl⟩ | ⟨hc1, hn1, g1⟩
      · rcases c2 with ⟨-, rfl⟩ | ⟨hc2, hn2, -⟩
        · rfl
        · exact absurd ⟨hc2, by rw [(hall 0 (by omega)).2]; exact hn2⟩ n1
      · rcases c2 with ⟨n2, rfl⟩ | ⟨hc2, hn2, g2⟩
        · exact absurd ⟨hc1, by rw [← (hall 0 (by omega)).2]; exact hn1⟩ n2
        · subst hc1
          rw [← (hall 0 (by omega)).1] at g2
          obtain ⟨-, hqd, hirr⟩ := one_part (ct := cnt f) hs hd ⟨f1, hpp, hfac, hsrt, rfl⟩ hn1
          rcases g1 with ⟨a1, rfl⟩ | ⟨a1, a2⟩ | ⟨a1, a2⟩
          · rcases g2 with ⟨b1, rfl⟩ | ⟨b1, b2⟩ | ⟨b1, b2⟩
            · rfl
            · omega
            · omega
          · rcases g2 with ⟨b1, rfl⟩ | ⟨b1, b2⟩ | ⟨b1, b2⟩
            · omega
            · rcases a2 with ⟨rfl, q1⟩ | ⟨rfl, q1⟩ <;> rcases b2 with ⟨rfl, q2⟩ | ⟨rfl, q2⟩ <;> first | rfl | exact absurd q1 q2 | exact absurd q2 q1
            · omega
          · rcases g2 with ⟨b1, rfl⟩ | ⟨b1, b2⟩ | ⟨b1, b2⟩
            · omega
            · omega
            · subst a1
              exact quartic_same (f := ⟨q 0, hqd.pf⟩) hirr hqd a2 b2
set_option maxHeartbeats 2000000 in
theorem m_galois {m : Nat} {s : Int32} {P : Nat → PP} (hm : isX7 K m) (hs : RSlots m L P) : ConI K yX7_galois wsX7_galois 7 170 I L A [.ref m, .int s] (fun v I' L' A' => (okS s ∧ I' m 0 = 0 ∧ RSlots m L' P ∧ (∀ y, ¬ (m ≤ y ∧ y < m + 9) → I' y = I y ∧ L' y = L y) ∧ TF m I I' L L' ∧ A' = A ∧ galR (P (ix s)) v) ∨ (¬ okS s ∧ I' = u2 I m 0 1 ∧ L' = L ∧ A' = A)) := by
  have noT : ∀ j, j < 8 → ¬ rT j := fun j hj h => by have : 8 ≤ j ∧ j < 20 := h; omega
  have l4 : (4 : Int32).toInt = 4 := by decide
  apply w_X7_galois
  unfold wp_X7_galois
  refine ⟨_, m_isSlot, ?_⟩
  rintro v I1 L1 A1 ⟨h1, rfl, rfl, rfl⟩
  unfold wp_X7_galois_13
  refine ⟨fun z => ⟨hm.1, _, m_refused hm (Or.inr rfl), ?_⟩, fun z => ⟨hm.1, _, m_refused hm (Or.inl rfl), ?_⟩⟩
  · rintro v I2 L2 A2 ⟨rfl, rfl, rfl, rfl⟩
    exact ⟨fun z => absurd z (by decide), fun _ => Or.inr ⟨way0 h1 z, rfl, rfl, rfl⟩⟩
  have hok := way1 h1 z
  obtain ⟨s, hs8, rfl⟩ := okS_n hok
  rw [ixn (by omega)]
  rintro v I2 L2 A2 ⟨rfl, rfl, rfl, rfl⟩
  refine ⟨fun _ => ⟨hm.1, _, m_degreeOf hm (show s < 30 by omega), ?_⟩, fun z => absurd rfl z⟩
  rintro v I3 L3 A3 ⟨rfl, rfl, rfl, rfl⟩
  have hrp := (hs s hs8).1
  have hsm := (hs s hs8).2
  rw [hrp]
  have hl8 : lnP (P s) 8 ≤ 8 := by
    have : ∀ n, lnP (P s) n ≤ n := by
      intro n
      induction n with
      | zero => exact Nat.le_refl _
      | succ n ih => rw [lnP]; split <;> omega
    exact this 8
  have hdeg : ∀ d, dgI (P s) d → lnP (P s) 8 = d + 1 := fun d hd => lnP_of hd.2 (fun z hz => by rw [show z = d by omega]; exact hd.1) (by have := hd.lt hsm.1; omega)
  have stay : (∀ d, dgI (P s) d → d < 1 ∨ 4 < d) → (okS (nI s) ∧ u2 I1 m 0 0 m 0 = 0 ∧ RSlots m L3 P ∧ (∀ y, ¬ (m ≤ y ∧ y < m + 9) → u2 I1 m 0 0 y = I1 y ∧ L3 y = L3 y) ∧ TF m I1 (u2 I1 m 0 0) L3 L3 ∧ A3 = A3 ∧ galR (P s) 0) ∨ (¬ okS (nI s) ∧ u2 I1 m 0 0 = u2 I1 m 0 1 ∧ L3 = L3 ∧ A3 = A3) := fun h => Or.inl ⟨hok, u2_self _ _ _ _, hs, fun y hy => ⟨u2_off _ _ (by omega), rfl⟩, tf_0 (RU.refl m (fun _ => True) L3), rfl, Or.inl ⟨h, rfl⟩⟩
  refine ⟨fun w => stay (fun d hd => ?_), fun w => ⟨fun w2 => ?_, fun w2 => stay (fun d hd => ?_)⟩⟩
  · rw [ilt, tm1 (by omega), li1, hdeg d hd] at w; omega
  rotate_left
  · rw [ile, tm1 (by omega), l4, hdeg d hd] at w2; omega
  rw [ilt, tm1 (by omega), li1] at w
  rw [ile, tm1 (by omega), l4] at w2
  have hne : P s ≠ p0 := fun e => by
    have : lnP (P s) 8 = 0 := by rw [e]; decide
    omega
  obtain ⟨d, hd⟩ := Pf.dg (f := P s) ⟨7, hsm.1⟩ hne
  have hld := hdeg d hd
  rw [hld] at w w2 ⊢
  refine ⟨_, m_takeApart hm hs8 hrp hsm hne, ?_⟩
  rintro I4 L4 A4 ⟨⟨c, q, n, f0, hpp, hfac, hsrt, hpt, hcn⟩, ru4, fr4, rfl⟩
  have hs4 := hs.ru ru4 noT
  have hpts : isPts (P s) c q n (cnt (P s)) := ⟨f0, hpp, hfac, hsrt, rfl⟩
  have k0 : I4 m 0 = 0 := by rw [fr4.2 0 (by omega) (by omega) (by omega) (by omega) (by omega) (by omega), u2_self]
  have fr : ∀ y, ¬ (m ≤ y ∧ y < m + 9) → I4 y = I1 y ∧ L4 y = L3 y := fun y hy => ⟨by rw [fr4.1 y (by omega) (by omega) (by omega), u2_off _ _ (by omega)], ru4.1 y (by omega)⟩
  have tf : TF m I1 I4 L3 L4 := ⟨by rw [fr4.2 7 (by omega) (by omega) (by omega) (by omega) (by omega) (by omega), u2_ne _ _ (by omega)], by rw [fr4.2 8 (by omega) (by omega) (by omega) (by omega) (by omega) (by omega), u2_ne _ _ (by omega)], by rw [fr4.2 11 (by omega) (by omega) (by omega) (by omega) (by omega) (by omega), u2_ne _ _ (by omega)], by rw [fr4.1 _ (by omega) (by omega) (by omega), u2_off _ _ (by omega)], by rw [fr4.1 _ (by omega) (by omega) (by omega), u2_off _ _ (by omega)], ru4.1 _ (by omega)⟩
  have done : ∀ (v : Int32) (I5 : TI) (L5 : TL), FrH m I4 I5 L4 L5 → galR (P s) v → (okS (nI s) ∧ I5 m 0 = 0 ∧ RSlots m L5 P ∧ (∀ y, ¬ (m ≤ y ∧ y < m + 9) → I5 y = I1 y ∧ L5 y = L3 y) ∧ TF m I1 I5 L3 L5 ∧ A4 = A4 ∧ galR (P s) v) ∨ (¬ okS (nI s) ∧ I5 = u2 I1 m 0 1 ∧ L5 = L3 ∧ A4 = A4) := fun v I5 L5 fH hg => by
    have hru : RU m (fun _ => False) L4 L5 ∨ True := Or.inr trivial
    refine Or.inl ⟨hok, by rw [fH.2 0 (by omega)]; exact k0, fun j hj => ⟨?_, (hs4 j hj).2⟩, fun y hy => ⟨(fH.1 y (by omega)).1.trans (fr y hy).1, (fH.1 y (by omega)).2.trans (fr y hy).2⟩, ?_, rfl, hg⟩
    · rw [← (hs4 j hj).1]
      unfold rp
      rw [(fH.1 (m + 1) (by omega)).2]
    · obtain ⟨t1, t2, t3, t4, t5, t6⟩ := tf
      exact ⟨by rw [fH.2 7 (by omega)]; exact t1, by rw [fH.2 8 (by omega)]; exact t2, by rw [fH.2 11 (by omega)]; exact t3, by rw [(fH.1 (m + 5) (by omega)).1]; exact t4, by rw [(fH.1 (m + 6) (by omega)).1]; exact t5, by rw [(fH.1 (m + 4) (by omega)).2]; exact t6⟩
  have fHr : FrH m I4 I4 L4 L4 := ⟨fun _ _ => ⟨rfl, rfl⟩, fun _ _ => rfl⟩
  have hc6 := hpt.2.1
  have gal : ∀ v, ((¬ (c = 1 ∧ n 0 = 1) ∧ v = 0) ∨ (c = 1 ∧ n 0 = 1 ∧ grR (q 0) d v)) → galR (P s) v := fun v h => Or.inr ⟨d, c, q, n, hd, by omega, by omega, hpts, h⟩
  refine ⟨fun z1 => ?_, fun z1 => done 0 I4 L4 fHr (gal 0 (Or.inl ⟨fun t => z1 (by rw [hpt.1, t.1]; rfl), rfl⟩))⟩
  have hc1 : c = 1 := by
    rw [hpt.1, ← Int32.toInt_inj, tI (by omega), li1] at z1
    omega
  subst hc1
  obtain ⟨r12, hn0, hnp, hn8⟩ := hpt.2.2 0 (by omega)
  refine ⟨⟨8, hm.2.2.1, inOf (k := 0) (by decide) (by omega)⟩, ?_⟩
  rw [ix0, hn0]
  refine ⟨fun z2 => ?_, fun z2 => done 0 I4 L4 fHr (gal 0 (Or.inl ⟨fun t => z2 (by rw [t.2]; rfl), rfl⟩))⟩
  have hn1 : n 0 = 1 := by
    rw [← Int32.toInt_inj, tI (by omega), li1] at z2
    omega
  obtain ⟨hqb, hqd, hqi⟩ := one_part hsm hd hpts hn1
  have e12 : rp L4 m 12 = q 0 := r12
  have val : ∀ k, k < 8 → (L4 (m + 1) (96 + k)).toInt = q 0 k := fun k hk => by
    have := congrFun e12 k
    unfold rp at this
    rw [if_pos hk] at this
    exact this
  have okr : ∀ (k : Nat) (x : Int32), x.toInt = ((96 + k : Nat) : Int) → k < 8 → aok (cxS K) (m + 1) 1 x := fun k x hx hk => ⟨240, hm.2.1, inOf hx (by omega)⟩
  have i0 : (96 : Int32).toInt = ((96 + 0 : Nat) : Int) := by decide
  have i1 : (96 + 1 : Int32).toInt = ((96 + 1 : Nat) : Int) := by decide
  have i2 : (96 + 2 : Int32).toInt = ((96 + 2 : Nat) : Int) := by decide
  have i3 : (96 + 3 : Int32).toInt = ((96 + 3 : Nat) : Int) := by decide
  have i4 : (96 + 4 : Int32).toInt = ((96 + 4 : Nat) : Int) := by decide
  have ht : tpI (d + 1) = nI d := tp_s d
  rw [ht]
  refine ⟨fun z3 => ⟨fun z4 => ?_, fun z4 => ?_⟩, fun z3 => done (nI d) I4 L4 fHr (gal (nI d) (Or.inr ⟨rfl, hn1, Or.inl ⟨?_, rfl⟩⟩))⟩
  · have hd3 : d = 3 := by rw [← Int32.toInt_inj, tI (by omega), li3] at z4; omega
    refine ⟨okr 3 _ i3 (by omega), okr 2 _ i2 (by omega), okr 1 _ i1 (by omega), okr 0 _ i0 (by omega), ?_⟩
    rw [ix_of i3, ix_of i2, ix_of i1, ix_of i0]
    refine ⟨_, m_cubic (val 3 (by omega)) (val 2 (by omega)) (val 1 (by omega)) (val 0 (by omega)) (hqb 3) (hqb 2) (hqb 1) (hqb 0), ?_⟩
    rintro v I5 L5 A5 ⟨hv, rfl, rfl, rfl⟩
    exact done v I5 L5 fHr (gal v (Or.inr ⟨rfl, hn1, Or.inr (Or.inl ⟨hd3, hv⟩)⟩))
  · have hd4 : d = 4 := by
      have h3 : ¬ d = 3 := fun t => z4 (by rw [t]; rfl)
      rw [ile, li3, tI (by omega)] at z3
      omega
    subst hd4
    refine ⟨okr 4 _ i4 (by omega), okr 3 _ i3 (by omega), okr 2 _ i2 (by omega), okr 1 _ i1 (by omega), okr 0 _ i0 (by omega), ?_⟩
    rw [ix_of i4, ix_of i3, ix_of i2, ix_of i1, ix_of i0]
    refine ⟨_, m_quartic hm (val 4 (by omega)) (val 3 (by omega)) (val 2 (by omega)) (val 1 (by omega)) (val 0 (by omega)) (hqb 4) (hqb 3) (hqb 2) (hqb 1) (hqb 0) hqd.1, ?_⟩
    rintro v I5 L5 A5 ⟨hv, fH, rfl⟩
    exact done v I5 L5 fH (gal v (Or.inr ⟨rfl, hn1, Or.inr (Or.inr ⟨rfl, hv⟩)⟩))
  · rw [ile, li3, tI (by omega)] at z3
    omega
end
