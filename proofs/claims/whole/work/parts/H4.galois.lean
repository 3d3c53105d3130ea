/-! THE DESK: galois -/
section
variable {K : Cx} {I : TI} {L : TL} {A : TA}
/-- what is answered for an irreducible polynomial of degree up to 4 -/
def grA (f : PP) (d : Nat) (v : Int32) : Prop := (d < 3 ∧ v = nI d) ∨ (d = 3 ∧ ((v = 3 ∧ Sq (dsI (f 3) (f 2) (f 1) (f 0))) ∨ (v = 4 ∧ ¬ Sq (dsI (f 3) (f 2) (f 1) (f 0))))) ∨ (d = 4 ∧ qcA (f 4) (f 3) (f 2) (f 1) (f 0) v)
theorem s_of {u d : Nat} (h : isRow K u) (hn : RowN I L u (d + 1)) (hd : d ≤ 4) (hb : ∀ k, (pl L u k).natAbs ≤ 300) : ConI K yX1_of wsX1_of 5 158 I L A [.ref u] (fun v I' L' A' => grA (pl L u) d v ∧ I' = I ∧ L' = L ∧ A' = A) := by
  have ht : I u 1 = nI d := by rw [hn.1.1, tp_s]
  apply w_X1_of
  unfold wp_X1_of
  rw [ht]
  have e4 : nI d = 4 ↔ d = 4 := by rw [← Int32.toInt_inj, tI (by omega), show (4 : Int32).toInt = 4 from rfl]; omega
  have e3 : nI d = 3 ↔ d = 3 := by rw [← Int32.toInt_inj, tI (by omega), li3]; omega
  refine ⟨h.1, fun z => ⟨_, s_ofQuartic h hb, ?_⟩, fun z => ⟨fun z2 => ⟨_, s_ofCubic h hb, ?_⟩, fun z2 => ⟨Or.inl ⟨?_, rfl⟩, rfl, rfl, rfl⟩⟩⟩
  · rintro v I1 L1 A1 ⟨h1, rfl, rfl, rfl⟩
    exact ⟨Or.inr (Or.inr ⟨e4.mp z, h1⟩), rfl, rfl, rfl⟩
  · rintro v I1 L1 A1 ⟨h1, rfl, rfl, rfl⟩
    exact ⟨Or.inr (Or.inl ⟨e3.mp z2, h1⟩), rfl, rfl, rfl⟩
  · have h1 : ¬ d = 4 := fun q => z (e4.mpr q)
    have h2 : ¬ d = 3 := fun q => z2 (e3.mpr q)
    omega
/-- what galois answers for f -/
def galA (f : PP) (v : Int32) : Prop := ((∀ d, dgI f d → d < 1 ∨ 4 < d) ∧ v = 0) ∨ ∃ d c q n, dgI f d ∧ 1 ≤ d ∧ d ≤ 4 ∧ isPts f c q n (cnt f) ∧ ((¬ (c = 1 ∧ n 0 = 1) ∧ v = 0) ∨ (c = 1 ∧ n 0 = 1 ∧ grA (q 0) d v))
set_option maxHeartbeats 1000000 in
theorem s_galois {x j : Nat} {P : Nat → PP} (hx : isDesk K x) (hs : Slots x I L A P) (hA : ArrD x A) (hj : j < 8) : ConI K yX6_galois wsX6_galois 7 182 I L A [.ref x, .int (nI j)] (fun v I' L' A' => Slots x I' L' A' P ∧ ArrD x A' ∧ (∀ y, y ≠ x + 110 → A' y = A y) ∧ (∀ y, ¬ (x + 40 ≤ y ∧ y < x + 124) → I' y = I y ∧ L' y = L y) ∧ galA (P j) v) := by
  obtain ⟨hx6, h39, h5, h24, h109⟩ := hx
  obtain ⟨hPA, hPF, hA5⟩ := hA
  have hb := sl_bd (x := x) hj
  obtain ⟨a1, a2, a3, a4⟩ := hs j hj
  have hrow := hx6.2.2.1 j hj
  have hX0 := hx6.2.2.2.2.2.2
  have hlen := a2.1.2.1
  have hdeg : ∀ d, dgI (P j) d → lnP (P j) 7 = d + 1 := fun d hd => lnP_of hd.2 (fun z hz => by rw [show z = d by omega]; exact hd.1) (by have := hd.lt a4.1; omega)
  apply w_X6_galois
  unfold wp_X6_galois
  refine ⟨_, s_checkSlot hj, ?_⟩
  rintro I1 L1 A1 ⟨rfl, rfl, rfl⟩
  refine ⟨hx6.1, hx6.slot hj rfl, ?_⟩
  rw [ixn (by omega), a1]
  refine ⟨hrow.1, fun v9 e9 => ?_⟩
  rw [a2.1.1] at e9
  subst e9
  have keep : (∀ d, dgI (P j) d → d < 1 ∨ 4 < d) → Slots x I1 L1 A1 P ∧ ArrD x A1 ∧ (∀ y, y ≠ x + 110 → A1 y = A1 y) ∧ (∀ y, ¬ (x + 40 ≤ y ∧ y < x + 124) → I1 y = I1 y ∧ L1 y = L1 y) ∧ galA (P j) 0 := fun h => ⟨hs, ⟨hPA, hPF, hA5⟩, fun _ _ => rfl, fun _ _ => ⟨rfl, rfl⟩, Or.inl ⟨h, rfl⟩⟩
  refine ⟨fun z => keep (fun d hd => ?_), fun z => ⟨fun z2 => ?_, fun z2 => keep (fun d hd => ?_)⟩⟩
  · rw [ilt, tm1 (by omega), li1, hdeg d hd] at z; omega
  rotate_left
  · rw [ile, tm1 (by omega), show (4 : Int32).toInt = 4 from rfl, hdeg d hd] at z2; omega
  rw [ilt, tm1 (by omega), li1] at z
  rw [ile, tm1 (by omega), show (4 : Int32).toInt = 4 from rfl] at z2
  obtain ⟨d, hd⟩ : ∃ d, lnP (P j) 7 = d + 1 := ⟨lnP (P j) 7 - 1, by omega⟩
  rw [hd] at a2 z z2
  have hPd : dgI (P j) d := by rw [← a3]; exact a2.dg
  refine ⟨hx6.slot hj rfl, hX0.1, _, s_takeApart (f := x + 40) (u := sl x j) (d := d) (fx := P j) hX0 h5 hA5 h109 hPF hrow (by omega) a2 a3 a4, ?_⟩
  rintro I2 L2 A2 ⟨⟨f1, hpp, c, q, n, hfac, hsrt, hfl⟩, hct, hP2, hA2, f2⟩
  have hArr2 : ArrD x A2 := ArrD.keep ⟨hPA, hPF, hA5⟩ hP2 (fun y hy => hA2 y (by omega))
  have fr : ∀ y, ¬ (x + 40 ≤ y ∧ y < x + 124) → I2 y = I1 y ∧ L2 y = L1 y := fun y h1 => f2 y (by omega)
  have hs2 : Slots x I2 L2 A2 P := (hs.fr (fun y h1 h2 => fr y (by omega))).arr (hA2 (x + 1) (by omega))
  have hpts : isPts (P j) c q n (cnt (P j)) := ⟨f1, hpp, hfac, hsrt, rfl⟩
  refine ⟨h109.1, _, s_isSingle h109 hfl, ?_⟩
  rintro v I3 L3 A3 ⟨hv, rfl, rfl, rfl⟩
  have hA3 : ∀ y, y ≠ x + 110 → A3 y = A1 y := fun y hy => hA2 y (by omega)
  refine ⟨fun w => ⟨hs2, hArr2, hA3, fr, Or.inr ⟨d, c, q, n, hPd, by omega, by omega, hpts, Or.inl ⟨(hv.resolve_left (fun t => by rw [t.1] at w; exact absurd w (by decide))).2, rfl⟩⟩⟩, fun w => ?_⟩
  obtain ⟨-, hc1, hn1⟩ := hv.resolve_right (fun t => w t.1)
  subst hc1
  obtain ⟨⟨d0, nd⟩, pq, -, -⟩ := hfl.2.2 0 (by omega)
  -- the one part is the primitive one
  have hne : P j ≠ p0 := hPd.ne
  obtain ⟨hprf, k0, d1, hk0, hfk, hd1, hd1p⟩ : prim f1 ∧ ∃ c d, c ≠ 0 ∧ P j = pc c f1 ∧ dgI f1 d ∧ 0 < f1 d := by
    rcases hpp with ⟨t, -⟩ | ⟨-, h2⟩
    · exact absurd t hne
    · exact h2
  have hq0 : q 0 = f1 := by
    have := hfac.1
    rw [this, prd, hn1]
    show q 0 = pm (pk0 1) (pw (q 0) 1)
    rw [pm_1l, pw_1]
  have hb0 : ∀ k, (q 0 k).natAbs ≤ 300 := fun k => by
    rw [hq0]
    have h1 : P j k = k0 * f1 k := congrFun hfk k
    have h2 := a4.2 k
    have h3 : (f1 k).natAbs ≤ (k0 * f1 k).natAbs := by
      rw [Int.natAbs_mul]; exact Nat.le_mul_of_pos_left _ (by omega)
    rw [← h1] at h3
    omega
  have hdd : d0 = d := by
    have h1 : dgI (pc k0 f1) d1 := ⟨Int.mul_ne_zero hk0 hd1.1, fun k hk => by show k0 * _ = 0; rw [hd1.2 k hk]; simp⟩
    rw [← hfk] at h1
    have h2 := h1.uniq hPd
    have h3 : dgI (q 0) d0 := by rw [← pq]; exact nd.dg
    rw [hq0] at h3
    have := h3.uniq hd1
    omega
  subst hdd
  refine ⟨h109.a (j := 0) (by omega) (by decide), ?_⟩
  rw [ix0]
  refine ⟨_, s_of (d := d0) (hP2.row h109 (by omega)) nd (by omega) (fun k => by rw [pq]; exact hb0 k), ?_⟩
  rintro r I4 L4 A4 ⟨hg, rfl, rfl, rfl⟩
  rw [pq] at hg
  exact ⟨hs2, hArr2, hA3, fr, Or.inr ⟨d0, 1, q, n, hPd, by omega, by omega, hpts, Or.inr ⟨rfl, hn1, hg⟩⟩⟩
end
