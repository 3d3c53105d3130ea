/-! THE DESK: pattern -/
section
variable {K : Cx} {I : TI} {L : TL} {A : TA}
theorem Slots.fr {x : Nat} {P : Nat → PP} {I' : TI} {L' : TL} (h : Slots x I L A P) (hf : ∀ y, x + 2 ≤ y → y < x + 18 → I' y = I y ∧ L' y = L y) : Slots x I' L' A P := fun j hj => by
  obtain ⟨h1, h2, h3, h4⟩ := h j hj
  have hb := sl_bd (x := x) hj
  have e1 := hf (sl x j) (by omega) (by omega)
  have e2 := hf (sl x j + 1) (by omega) (by omega)
  exact ⟨h1, h2.keep e1.1 e2.2, (pl_keep e2.2).trans h3, h4⟩
set_option maxHeartbeats 1000000 in
theorem s_pattern {x j q : Nat} {P : Nat → PP} (hx : isX6 K x) (h39 : cxS K (x + 39) = .inr (0, 6)) (h5 : isX5 K (x + 41)) (hA5 : AX5 A (x + 41)) (hs : Slots x I L A P) (hj : j < 8) (hq : okPr (nI q)) (hq2 : q < 2147483648) : ConI K yX6_pattern wsX6_pattern 5 139 I L A [.ref x, .int (nI j), .int (nI q)] (fun v I' L' A' => (∃ l, patA q (P j) v l ∧ PatD x I' l) ∧ Slots x I' L' A P ∧ (∀ y, y ≠ x → y ≠ x + 39 → ¬ (x + 41 ≤ y ∧ y < x + 82) → I' y = I y ∧ L' y = L y) ∧ (∀ k, k ≠ 6 → I' x k = I x k) ∧ L' x = L x ∧ A' = A) := by
  have hqq := hq
  obtain ⟨hq3, hq4, hpr⟩ := hqq
  rw [tI hq2] at hq3 hq4 hpr
  have hP : Pm q := ⟨hpr, by omega⟩
  have hb := sl_bd (x := x) hj
  obtain ⟨a1, a2, a3, a4⟩ := hs j hj
  apply w_X6_pattern
  unfold wp_X6_pattern
  refine ⟨_, s_checkSlot hj, ?_⟩
  rintro I1 L1 A1 ⟨rfl, rfl, rfl⟩
  refine ⟨_, s_checkPrime hq hq2, ?_⟩
  rintro I2 L2 A2 ⟨rfl, rfl, rfl⟩
  refine ⟨hx.1, fun I3 e3 => ⟨hx.slot hj rfl, ?_⟩⟩
  rw [ixn (by omega), a1]
  have hrow := hx.2.2.1 j hj
  have k3 : ∀ y, y ≠ x → I3 y = I2 y := fun y hy => by rw [e3, u2_off _ _ hy]
  have n3 : RowN I3 L2 (sl x j) (lnP (P j) 7) := a2.keep (k3 _ (by omega)) rfl
  have hlen := n3.1.2.1
  have h30 : I3 x 6 = 0 := by rw [e3, u2_self]
  have k36 : ∀ k, k ≠ 6 → I3 x k = I2 x k := fun k hk => by rw [e3, u2_ne _ _ (fun t => hk t.2)]
  have nil3 : PatD x I3 [] := ⟨h30, Nat.zero_le _, fun i hi => absurd hi (Nat.not_lt_zero _)⟩
  refine ⟨hrow.1, fun z => ?_, fun z => ?_⟩
  rotate_left
  · rw [n3.1.1, ile, li1, tm1 (by omega)] at z
    exact ⟨⟨[], Or.inl ⟨by omega, rfl, rfl⟩, nil3⟩, hs.fr (fun y h1 h2 => ⟨k3 y (by omega), rfl⟩), fun y h1 h2 h3 => ⟨k3 y h1, rfl⟩, k36, rfl, rfl⟩
  rw [n3.1.1, ile, li1, tm1 (by omega)] at z
  obtain ⟨n, hn⟩ : ∃ n, lnP (P j) 7 = n + 1 := ⟨lnP (P j) 7 - 1, by omega⟩
  rw [hn] at n3 z
  have hd : dgI (P j) n := by rw [← a3]; exact n3.dg
  have hn7 : n < 7 := hd.lt a4.1
  have hj64 : (Int32.toInt64 (nI q)).toInt = (q : Int) := by rw [Int32.toInt_toInt64, tI hq2]
  refine ⟨hx.slot hj rfl, h5.1, _, s_load (p := q) (n := n) h5 hrow (by omega) n3 (fun k => by rw [a3]; have := a4.2 k; omega) hP hj64, ?_⟩
  rintro v I4 L4 A4 ⟨hv, m4, f4, rfl⟩
  rw [a3] at hv
  have fr4 : ∀ y, y ≠ x → ¬ (x + 41 ≤ y ∧ y < x + 82) → I4 y = I2 y ∧ L4 y = L2 y := fun y h1 h2 => by
    have := f4 y (by omega)
    exact ⟨this.1.trans (k3 y h1), this.2⟩
  have hx4 := f4 x (by omega)
  refine ⟨fun z2 => ?_, fun z2 => ?_⟩
  · rcases hv with ⟨h1, -⟩ | ⟨-, h2⟩
    · rw [h1] at z2; exact absurd z2 (by decide)
    · have h392 := f4 (x + 39) (by omega)
      refine ⟨⟨[], Or.inr (Or.inl ⟨n, by omega, hd, ?_, rfl, rfl⟩), by rw [hx4.1]; exact h30, Nat.zero_le _, fun i hi => absurd hi (Nat.not_lt_zero _)⟩, hs.fr (fun y h1 h2 => fr4 y (by omega) (by omega)), fun y h1 h2 h3 => fr4 y h1 h3, fun k hk => by rw [hx4.1]; exact k36 k hk, hx4.2, rfl⟩
      rcases h2 with h2 | h2 | h2
      · omega
      · exact Or.inl h2
      · exact Or.inr h2
  · rcases hv with ⟨h1, h2, h3, hImg, n7, D, G, hG, hD, hG0⟩ | ⟨h1, -⟩
    rotate_left
    · exact absurd h1 z2
    have hImg' := hImg
    obtain ⟨-, rF, dF, lF⟩ := hImg'
    have hG' : GcdM q G (pl L4 (x + 41 + 7)) (drv (pl L4 (x + 41 + 7))) := hG.congr (cg.refl _ _) hD
    have hsq : sqf q (pl L4 (x + 41 + 7)) := sqf_of hpr hG' hG0
    refine ⟨_, s_groupByDegrees (p := q) (n := n) h5 hA5 hP m4 n7 rfl rF lF h2 (by omega) hsq, ?_⟩
    rintro I5 L5 A5 ⟨⟨g, Q, hg⟩, f5, rfl⟩
    have hx5 := f5 x (by omega)
    have hmd : md q (pl L4 (x + 41 + 7)) n := rsd_md rF dF
    have hsg := hg.deg hpr hmd
    have hll : (lsg g 6).length ≤ 6 := by have := lsg_len g 6; omega
    have hch := hg.2.2.2.1
    refine ⟨_, s_tellPattern hx.1 h39 h5 hA5 hg hll (by rw [hx5.1, hx4.1]; exact h30), ?_⟩
    rintro I6 L6 A6 ⟨hp6, hf6, hk6, rfl, rfl⟩
    have fr6 : ∀ y, y ≠ x → y ≠ x + 39 → ¬ (x + 41 ≤ y ∧ y < x + 82) → I6 y = I2 y ∧ L6 y = L2 y := fun y h1 h2 h3 => by
      have b1 := fr4 y h1 h3
      have b2 := f5 y (by omega)
      exact ⟨(hf6 y h1 h2).trans (b2.1.trans b1.1), b2.2.trans b1.2⟩
    obtain ⟨R', hch1, hch2⟩ := hch
    refine ⟨⟨lsg g 6, Or.inr (Or.inr ⟨n, h2, hd, h3, ⟨_, _, _, img_asc hpr hImg, (img_ascd hpr hImg).trans (asc.of_cg hD.symm), hG, hG0⟩, ⟨_, 6, R', img_asc hpr hImg, hch1, hch2⟩, hp6.1⟩), hp6⟩, hs.fr (fun y h1 h2 => fr6 y (by omega) (by omega) (by omega)), fr6, fun k hk => by rw [hk6 k hk, hx5.1, hx4.1]; exact k36 k hk, by rw [hx5.2, hx4.2], rfl⟩
/-- degree(i) -/
theorem s_degree {x : Nat} {i : Int32} {l : List Nat} (hx : cxS K x = shX6 x) (h39 : cxS K (x + 39) = .inr (0, 6)) (hp : PatD x I l) : ConI K yX6_degree wsX6_degree 0 0 I L A [.ref x, .int i] (fun v I' L' A' => ((0 ≤ i.toInt ∧ i.toInt < l.length ∧ v = nI (l.getD (ix i) 0)) ∨ ((i.toInt < 0 ∨ l.length ≤ i.toInt) ∧ v = 0)) ∧ I' = I ∧ L' = L ∧ A' = A) := by
  obtain ⟨h1, h2, h3⟩ := hp
  apply w_X6_degree
  unfold wp_X6_degree
  refine ⟨fun z => ?_, fun z => ⟨hx, fun z2 => ?_, fun z2 => ?_⟩⟩
  · rw [ilt, li0] at z
    exact ⟨Or.inr ⟨Or.inl z, rfl⟩, rfl, rfl, rfl⟩
  · rw [ilt, li0] at z
    rw [h1, ilt, tI (by omega)] at z2
    obtain ⟨k, hk⟩ : ∃ k : Nat, i.toInt = k := ⟨i.toInt.toNat, by omega⟩
    refine ⟨⟨6, h39, inOf hk (by omega)⟩, Or.inl ⟨by omega, z2, ?_⟩, rfl, rfl, rfl⟩
    rw [ix_of hk]
    exact (h3 k (by omega)).1
  · rw [h1, ilt, tI (by omega)] at z2
    exact ⟨Or.inr ⟨Or.inr (by omega), rfl⟩, rfl, rfl, rfl⟩
end
