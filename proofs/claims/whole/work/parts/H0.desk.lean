/-! THE DESK: parts, part, times, content -/
section
variable {K : Cx} {I : TI} {L : TL} {A : TA}
def isDesk (K : Cx) (x : Nat) : Prop := isX6 K x ∧ cxS K (x + 39) = .inr (0, 6) ∧ isX5 K (x + 41) ∧ isX2 K (x + 24) ∧ isX2 K (x + 109)
/-- the parts told last -/
def TolD (x : Nat) (I : TI) (L : TL) (A : TA) (c : Nat) (q : Nat → PP) (n : Nat → Nat) (ct : Int) : Prop := FLs (x + 24) I L A c q n ∧ (I (x + 24) 3).toInt = ct
/-- how the arrays of rows stand -/
def ArrD (x : Nat) (A : TA) : Prop := PermA A (x + 24) ∧ PermA A (x + 109) ∧ AX5 A (x + 41)
theorem ArrD.keep {x : Nat} {A' : TA} (h : ArrD x A) (hP : PermA A' (x + 109)) (hA : ∀ y, y ≠ x + 110 → A' y = A y) : ArrD x A' := by
  obtain ⟨h1, h2, h3, h4, h5⟩ := h
  refine ⟨⟨fun j hj => by rw [hA _ (by omega)]; exact h1.1 j hj, fun i j hi hj hij => by rw [hA _ (by omega)]; exact h1.2 i j hi hj hij⟩, hP, fun j hj => by rw [hA _ (by omega)]; exact h3 j hj, fun j hj => by rw [hA _ (by omega)]; exact h4 j hj, fun j hj => by rw [hA _ (by omega)]; exact h5 j hj⟩
theorem Slots.arr {x : Nat} {P : Nat → PP} {A' : TA} (h : Slots x I L A P) (hA : A' (x + 1) = A (x + 1)) : Slots x I L A' P := fun j hj => by
  obtain ⟨h1, h2⟩ := h j hj
  exact ⟨by rw [hA]; exact h1, h2⟩
theorem FLs.arr {o c : Nat} {q : Nat → PP} {n : Nat → Nat} {A' : TA} (h : FLs o I L A c q n) (hA : A' (o + 1) = A (o + 1)) : FLs o I L A' c q n := ⟨h.1, h.2.1, fun i hi => by rw [hA]; exact h.2.2 i hi⟩
set_option maxHeartbeats 1000000 in
theorem s_parts {x j : Nat} {P : Nat → PP} (hx : isDesk K x) (hs : Slots x I L A P) (hA : ArrD x A) (hj : j < 8) : ConI K yX6_parts wsX6_parts 7 182 I L A [.ref x, .int (nI j)] (fun v I' L' A' => Slots x I' L' A' P ∧ ArrD x A' ∧ (∀ y, ¬ (x + 24 ≤ y ∧ y < x + 39) → ¬ (x + 40 ≤ y ∧ y < x + 124) → I' y = I y ∧ L' y = L y) ∧ ((P j = p0 ∧ v = -3 ∧ I' = I ∧ L' = L ∧ A' = A) ∨ (P j ≠ p0 ∧ ∃ c q n, v = nI c ∧ isPts (P j) c q n (cnt (P j)) ∧ TolD x I' L' A' c q n (cnt (P j))))) := by
  obtain ⟨hx6, h39, h5, h24, h109⟩ := hx
  obtain ⟨hPA, hPF, hA5⟩ := hA
  have hb := sl_bd (x := x) hj
  obtain ⟨a1, a2, a3, a4⟩ := hs j hj
  have hrow := hx6.2.2.1 j hj
  apply w_X6_parts
  unfold wp_X6_parts
  refine ⟨_, s_checkSlot hj, ?_⟩
  rintro I1 L1 A1 ⟨rfl, rfl, rfl⟩
  refine ⟨hx6.1, hx6.slot hj rfl, ?_⟩
  rw [ixn (by omega), a1]
  have hlen := a2.1.2.1
  refine ⟨hrow.1, fun z => ?_, fun z => ?_⟩
  rotate_left
  · rw [a2.1.1, ile, li0, tm1 (by omega)] at z
    refine ⟨hs, ⟨hPA, hPF, hA5⟩, fun _ _ _ => ⟨rfl, rfl⟩, Or.inl ⟨?_, rfl, rfl, rfl, rfl⟩⟩
    exact (len_0 a4.1).mp (by omega)
  rw [a2.1.1, ile, li0, tm1 (by omega)] at z
  have hne : P j ≠ p0 := fun e => by
    have := (len_0 a4.1).mpr e
    omega
  obtain ⟨d, hd⟩ : ∃ d, lnP (P j) 7 = d + 1 := ⟨lnP (P j) 7 - 1, by omega⟩
  rw [hd] at a2
  have hX0 := hx6.2.2.2.2.2.2
  refine ⟨hx6.slot hj rfl, hX0.1, _, s_takeApart (f := x + 40) (u := sl x j) (d := d) (fx := P j) hX0 h5 hA5 h109 hPF hrow (by omega) a2 a3 a4, ?_⟩
  rintro I2 L2 A2 ⟨⟨f1, hpp, c, q, n, hfac, hsrt, hfl⟩, hct, hP2, hA2, f2⟩
  have hArr2 : ArrD x A2 := ArrD.keep ⟨hPA, hPF, hA5⟩ hP2 (fun y hy => hA2 y (by omega))
  refine ⟨h24.1, _, s_lbecome h24 h109 hArr2.1 hP2 (by omega) hfl, ?_⟩
  rintro I3 L3 A3 ⟨hfl3, h33, f3, rfl⟩
  have fr : ∀ y, ¬ (x + 24 ≤ y ∧ y < x + 39) → ¬ (x + 40 ≤ y ∧ y < x + 124) → I3 y = I1 y ∧ L3 y = L1 y := fun y h1 h2 => by
    have b1 := f2 y (by omega)
    have b2 := f3 y (by omega)
    exact ⟨b2.1.trans b1.1, b2.2.trans b1.2⟩
  refine ⟨(hs.fr (fun y h1 h2 => fr y (by omega) (by omega))).arr (hA2 (x + 1) (by omega)), hArr2, fr, Or.inr ⟨hne, c, q, n, hfl3.1, ⟨f1, hpp, hfac, hsrt, rfl⟩, hfl3, ?_⟩⟩
  rw [h33]; exact hct
/-- part(i, k) -/
theorem s_part {x c : Nat} {i k : Int32} {q : Nat → PP} {n : Nat → Nat} {ct : Int} (hx : isDesk K x) (hA : ArrD x A) (ht : TolD x I L A c q n ct) : ConL K yX6_part wsX6_part 1 21 I L A [.ref x, .int i, .int k] (fun v I' L' A' => ((0 ≤ i.toInt ∧ i.toInt < c ∧ 0 ≤ k.toInt ∧ v.toInt = q (ix i) (ix k)) ∨ (¬ (0 ≤ i.toInt ∧ i.toInt < c ∧ 0 ≤ k.toInt) ∧ v = 0)) ∧ I' = I ∧ L' = L ∧ A' = A) := by
  obtain ⟨hx6, -, -, h24, -⟩ := hx
  obtain ⟨⟨h2, hc6, hq⟩, -⟩ := ht
  apply w_X6_part
  unfold wp_X6_part
  refine ⟨hx6.1, h24.1, _, s_holds h24 h2 hc6, ?_⟩
  rintro v I1 L1 A1 ⟨hv, rfl, rfl, rfl⟩
  refine ⟨fun z => ?_, fun z => ?_⟩
  · have := (hv.resolve_left (fun t => by rw [t.1] at z; exact absurd z (by decide))).2
    exact ⟨Or.inr ⟨fun t => this ⟨t.1, t.2.1⟩, rfl⟩, rfl, rfl, rfl⟩
  · obtain ⟨-, h3, h4⟩ := hv.resolve_right (fun t => z t.1)
    obtain ⟨a, ha⟩ : ∃ a : Nat, i.toInt = a := ⟨i.toInt.toNat, by omega⟩
    have ha6 : a < 6 := by omega
    refine ⟨h24.a ha6 ha, ?_⟩
    rw [ix_of ha]
    have hrow := hA.1.row h24 ha6
    obtain ⟨⟨d, nd⟩, pq, -, -⟩ := hq a (by omega)
    refine ⟨hrow.1, _, s_at hrow, ?_⟩
    rintro w I2 L2 A2 ⟨⟨g1, g2⟩, rfl, rfl, rfl⟩
    refine ⟨?_, rfl, rfl, rfl⟩
    rcases Int.lt_or_le k.toInt 0 with q1 | q1
    · exact Or.inr ⟨fun t => by omega, g2 (Or.inl q1)⟩
    · obtain ⟨b, hb⟩ : ∃ b : Nat, k.toInt = b := ⟨k.toInt.toNat, by omega⟩
      refine Or.inl ⟨h3, h4, q1, ?_⟩
      rw [ix_of hb, ← pq]
      rcases Nat.lt_or_ge b 13 with q2 | q2
      · rw [g1 b hb q2, pl_lt q2]
      · rw [g2 (Or.inr (by omega))]
        exact (if_neg (by omega) : pl L2 (A2 (x + 24 + 1) a) b = 0).symm
/-- times(i) -/
theorem s_times {x c : Nat} {i : Int32} {q : Nat → PP} {n : Nat → Nat} {ct : Int} (hx : isDesk K x) (ht : TolD x I L A c q n ct) : ConI K yX6_times wsX6_times 1 21 I L A [.ref x, .int i] (fun v I' L' A' => ((0 ≤ i.toInt ∧ i.toInt < c ∧ v = nI (n (ix i))) ∨ (¬ (0 ≤ i.toInt ∧ i.toInt < c) ∧ v = 0)) ∧ I' = I ∧ L' = L ∧ A' = A) := by
  obtain ⟨hx6, -, -, h24, -⟩ := hx
  obtain ⟨⟨h2, hc6, hq⟩, -⟩ := ht
  apply w_X6_times
  unfold wp_X6_times
  refine ⟨hx6.1, h24.1, _, s_holds h24 h2 hc6, ?_⟩
  rintro v I1 L1 A1 ⟨hv, rfl, rfl, rfl⟩
  refine ⟨fun z => ?_, fun z => ?_⟩
  · have := (hv.resolve_left (fun t => by rw [t.1] at z; exact absurd z (by decide))).2
    exact ⟨Or.inr ⟨this, rfl⟩, rfl, rfl, rfl⟩
  · obtain ⟨-, h3, h4⟩ := hv.resolve_right (fun t => z t.1)
    obtain ⟨a, ha⟩ : ∃ a : Nat, i.toInt = a := ⟨i.toInt.toNat, by omega⟩
    refine ⟨h24.n (show a < 6 by omega) ha, Or.inl ⟨h3, h4, ?_⟩, rfl, rfl, rfl⟩
    rw [ix_of ha]
    exact (hq a (by omega)).2.2.1
/-- content() -/
theorem s_content {x c : Nat} {q : Nat → PP} {n : Nat → Nat} {ct : Int} (hx : isDesk K x) (ht : TolD x I L A c q n ct) : ConI K yX6_content wsX6_content 0 0 I L A [.ref x] (fun v I' L' A' => v.toInt = ct ∧ I' = I ∧ L' = L ∧ A' = A) := by
  apply w_X6_content
  unfold wp_X6_content
  exact ⟨hx.1.1, hx.2.2.2.1.1, ht.2, rfl, rfl, rfl⟩
end
