/-! PART LISTS: sort, become -/
section
variable {K : Cx} {I : TI} {L : TL} {A : TA}
theorem s_swap {o j : Nat} (ho : isX2 K o) (hA : PermA A o) (hj : j + 1 < 6) : ConV K yX2_swapWithPrevious wsX2_swapWithPrevious 0 0 I L A [.ref o, .int (nI (j + 1))] (fun I' L' A' => (∀ i, A' (o + 1) i = swp (A (o + 1)) j i) ∧ (∀ i, I' (o + 14) i = swp (I (o + 14)) j i) ∧ (∀ y, y ≠ o + 1 → A' y = A y) ∧ (∀ y, y ≠ o + 14 → I' y = I y) ∧ L' = L) := by
  have e1 : (nI (j + 1) - 1) = nI j := tp_s j
  have x1 : ix (nI (j + 1)) = j + 1 := ixn (by omega)
  have x0 : ix (nI j) = j := ixn (by omega)
  apply w_X2_swapWithPrevious
  unfold wp_X2_swapWithPrevious
  rw [e1, x1, x0]
  have a1 := ho.a (j := j + 1) (by omega) (tI (by omega))
  have a0 := ho.a (j := j) (by omega) (tI (k := j) (by omega))
  have n1 := ho.n (j := j + 1) (by omega) (tI (by omega))
  have n0 := ho.n (j := j) (by omega) (tI (k := j) (by omega))
  refine ⟨ho.1, a1, a0, (hA.row ho (j := j) (by omega)).1, a1, fun A5 e5 => ⟨(hA.row ho (j := j + 1) (by omega)).1, a0, fun A8 e8 => ⟨n1, fun v11 e11 => ⟨n0, n1, fun I14 e14 => ⟨n0, fun I16 e16 => ⟨fun i => ?_, fun i => ?_, fun y hy => ?_, fun y hy => ?_, rfl⟩⟩⟩⟩⟩⟩
  · by_cases w : i = j
    · rw [w, e8, u2_self, swp_lo]
    · rw [e8, u2_ne _ _ (fun t => w t.2), e5]
      by_cases w2 : i = j + 1
      · rw [w2, u2_self, swp_hi]
      · rw [u2_ne _ _ (fun t => w2 t.2), swp_ne _ w2 w]
  · by_cases w : i = j
    · rw [w, e16, u2_self, swp_lo, e11]
    · rw [e16, u2_ne _ _ (fun t => w t.2), e14]
      by_cases w2 : i = j + 1
      · rw [w2, u2_self, swp_hi]
      · rw [u2_ne _ _ (fun t => w2 t.2), swp_ne _ w2 w]
  · rw [e8, u2_off _ _ hy, e5, u2_off _ _ hy]
  · rw [e16, u2_off _ _ hy, e14, u2_off _ _ hy]
theorem swp_ex {α : Type} (q : Nat → α) (j i : Nat) : ∃ k, swp q j i = q k ∧ ((i = j + 1 ∧ k = j) ∨ (i = j ∧ k = j + 1) ∨ (i ≠ j + 1 ∧ i ≠ j ∧ k = i)) := by
  by_cases a : i = j + 1
  · exact ⟨j, by rw [a, swp_hi], Or.inl ⟨a, rfl⟩⟩
  · by_cases b : i = j
    · exact ⟨j + 1, by rw [b, swp_lo], Or.inr (Or.inl ⟨b, rfl⟩)⟩
    · exact ⟨i, swp_ne q a b, Or.inr (Or.inr ⟨a, b, rfl⟩)⟩
theorem swp_same {α β : Type} (q : Nat → α) (n : Nat → β) {j i k : Nat} (h : (i = j + 1 ∧ k = j) ∨ (i = j ∧ k = j + 1) ∨ (i ≠ j + 1 ∧ i ≠ j ∧ k = i)) : swp q j i = q k ∧ swp n j i = n k := by
  rcases h with ⟨rfl, rfl⟩ | ⟨rfl, rfl⟩ | ⟨h1, h2, rfl⟩
  · exact ⟨swp_hi _ _, swp_hi _ _⟩
  · exact ⟨swp_lo _ _, swp_lo _ _⟩
  · exact ⟨swp_ne _ h1 h2, swp_ne _ h1 h2⟩
theorem PermA.sw {o j : Nat} {A' : TA} (h : PermA A o) (hj : j + 1 < 6) (e : ∀ i, A' (o + 1) i = swp (A (o + 1)) j i) : PermA A' o := by
  refine ⟨fun i hi => ?_, fun i i' hi hi' hne => ?_⟩
  · obtain ⟨k, hk, hc⟩ := swp_ex (A (o + 1)) j i
    rw [e, hk]; exact h.1 k (by omega)
  · obtain ⟨k, hk, hc⟩ := swp_ex (A (o + 1)) j i
    obtain ⟨k', hk', hc'⟩ := swp_ex (A (o + 1)) j i'
    rw [e, e, hk, hk']
    exact h.2 k k' (by omega) (by omega) (by omega)
set_option maxHeartbeats 2000000 in
theorem s_sort {o c : Nat} {f0 : PP} {q : Nat → PP} {n : Nat → Nat} (ho : isX2 K o) (hA : PermA A o) (hf : Fac f0 c q n) (hp : FLs o I L A c q n) :
    ConV K yX2_sort wsX2_sort 2 45 I L A [.ref o] (fun I' L' A' => (∃ q' n', Fac f0 c q' n' ∧ FLs o I' L' A' c q' n' ∧ srt c q') ∧ PermA A' o ∧ (∀ y, y ≠ o + 1 → A' y = A y) ∧ (∀ y, y ≠ o + 14 → I' y = I y) ∧ L' = L) := by
  have hc6 := hp.2.1
  obtain ⟨S, hS⟩ : ∃ S : (Nat → PP) → TI → TL → TA → Prop, S = fun q' I' L' A' => ∃ n', Fac f0 c q' n' ∧ FLs o I' L' A' c q' n' ∧ PermA A' o ∧ (∀ y, y ≠ o + 1 → A' y = A y) ∧ (∀ y, y ≠ o + 14 → I' y = I y) ∧ L' = L := ⟨_, rfl⟩
  apply w_X2_sort
  unfold wp_X2_sort wp_X2_sort_2
  refine ⟨fun μ I' L' A' x => ∃ i q', (i + μ = c + 1 ∧ 1 ≤ i) ∧ x = nI i ∧ (∀ a b, a < b → b < i → b < c → bef (q' a) (q' b)) ∧ S q' I' L' A', c, ⟨1, q, by omega, rfl, fun a b h1 h2 => by omega, ?_⟩, ?_⟩
  · rw [hS]; exact ⟨n, hf, hp, hA, fun _ _ => rfl, fun _ _ => rfl, rfl⟩
  rintro μ C hC I' L' A' _ ⟨i, q', ⟨hi, hi1⟩, rfl, hsr, hst⟩
  have hst0 := hst
  rw [hS] at hst0
  obtain ⟨n', g1, g2, g3, g4, g5, g6⟩ := hst0
  refine ⟨ho.1, fun z => ?_, fun z => ?_⟩
  · rw [g2.1, ile, tI (by omega), tI (by omega)] at z
    exact ⟨⟨q', n', g1, g2, fun a b h1 h2 => hsr a b h1 (by omega) h2⟩, g3, g4, g5, g6⟩
  · rw [g2.1, ile, tI (by omega), tI (by omega)] at z
    have hic : i < c := by omega
    clear g1 g2 g3 g4 g5 g6
    unfold wp_X2_sort_12
    refine ⟨fun ν I'' L'' A'' x1 x2 => ∃ q'', ν ≤ i ∧ x1 = nI i ∧ x2 = nI ν ∧ (∀ a b, a < b → b ≤ i → b ≠ ν → bef (q'' a) (q'' b)) ∧ S q'' I'' L'' A'', i, ⟨q', Nat.le_refl i, rfl, rfl, fun a b h1 h2 h3 => hsr a b h1 (by omega) (by omega), hst⟩, ?_⟩
    clear hst hsr
    rintro ν C' hC' I2 L2 A2 _ _ ⟨q'', hν, rfl, rfl, hsr, hst⟩
    have hst0 := hst
    rw [hS] at hst0
    obtain ⟨n', g1, g2, g3, g4, g5, g6⟩ := hst0
    refine ⟨fun w v hv => ?_, fun w => ?_⟩
    · rw [ile, li0, tI (by omega)] at w
      have : ν = 0 := by omega
      subst this
      exact hC (μ - 1) _ _ _ _ (by omega) ⟨i + 1, q'', ⟨by omega, by omega⟩, by rw [hv, sI], fun a b h1 h2 _ => hsr a b h1 (by omega) (by omega), hst⟩
    · rw [ile, li0, tI (by omega)] at w
      obtain ⟨j, rfl⟩ : ∃ j, ν = j + 1 := ⟨ν - 1, by omega⟩
      have ej : nI (j + 1) - 1 = nI j := tp_s j
      have x1 : ix (nI (j + 1)) = j + 1 := ixn (by omega)
      have x0 : ix (nI j) = j := ixn (by omega)
      obtain ⟨⟨d1, hn1⟩, hq1, ho1, hb1⟩ := g2.2.2 (j + 1) (by omega)
      obtain ⟨⟨d0, hn0⟩, hq0, ho0, hb0⟩ := g2.2.2 j (by omega)
      have hpos : ∀ k, k < c → ∀ d, dgI (q'' k) d → 0 < q'' k d := fun k hk d hd => by
        obtain ⟨d', h1, h2⟩ := (g1.2.1 k hk).2.1
        rw [← h1.uniq hd]; exact h2
      have hr1 := g3.row ho (j := j + 1) (by omega)
      have hr0 := g3.row ho (j := j) (by omega)
      rw [ej, x1, x0]
      refine ⟨ho.1, ho.a (j := j + 1) (by omega) (tI (by omega)), ho.a (j := j) (by omega) (tI (by omega)), hr1.1, _, s_compareWith hr1 hr0 hn1 hn0 (by rw [hq1]; exact hpos _ (by omega) _ (by rw [← hq1]; exact hn1.dg)) (by rw [hq0]; exact hpos _ (by omega) _ (by rw [← hq0]; exact hn0.dg)), ?_⟩
      rintro v I3 L3 A3 ⟨hv, rfl, rfl, rfl⟩
      rw [hq1, hq0] at hv
      refine ⟨fun w2 v9 e9 => ?_, fun w2 => ⟨_, s_swap (j := j) ho g3 (by omega), ?_⟩⟩
      · rw [ile, li0] at w2
        have hnb : ¬ bef (q'' (j + 1)) (q'' j) := by
          rcases hv with ⟨h1, -⟩ | ⟨-, h2⟩
          · omega
          · exact h2
        have hb : bef (q'' j) (q'' (j + 1)) := by
          obtain ⟨d1, hd1, -⟩ := (g1.2.1 j (by omega)).2.1
          obtain ⟨d2, hd2, -⟩ := (g1.2.1 (j + 1) (by omega)).2.1
          rcases bef_tri hd1.pf hd2.pf with t | t | t
          · exact t
          · exact absurd t (g1.2.2 j (j + 1) (by omega) (by omega) (by omega))
          · exact absurd t hnb
        refine hC (μ - 1) _ _ _ _ (by omega) ⟨i + 1, q'', ⟨by omega, by omega⟩, by rw [e9, sI], fun a b h1 h2 _ => ?_, hst⟩
        by_cases eb : b = j + 1
        · subst eb
          by_cases ea : a = j
          · subst ea; exact hb
          · exact (hsr a j (by omega) (by omega) (by omega)).trans hb
        · exact hsr a b h1 (by omega) eb
      · rw [ile, li0] at w2
        have hb : bef (q'' (j + 1)) (q'' j) := by
          rcases hv with ⟨-, h1⟩ | ⟨h2, -⟩
          · exact h1
          · omega
        rintro I4 L4 A4 ⟨sA, sI', fA, fI, rfl⟩ v18 e18
        refine hC' j _ _ _ _ _ (by omega) ⟨swp q'' j, by omega, rfl, by rw [e18, ldec (by omega)]; exact tp_s j, fun a b h1 h2 h3 => ?_, ?_⟩
        · by_cases eb : b = j + 1
          · subst eb
            rw [swp_hi]
            by_cases ea : a = j
            · subst ea; rw [swp_lo]; exact hb
            · rw [swp_ne _ (by omega) ea]; exact hsr a j (by omega) (by omega) (by omega)
          · rw [swp_ne _ (i := b) eb h3]
            by_cases ea : a = j + 1
            · subst ea; rw [swp_hi]; exact hsr j b (by omega) h2 eb
            · by_cases ea' : a = j
              · subst ea'; rw [swp_lo]; exact hsr (a + 1) b (by omega) h2 eb
              · rw [swp_ne _ ea ea']; exact hsr a b h1 h2 eb
        · rw [hS]
          refine ⟨swp n' j, g1.sw (by omega), ⟨by rw [fI o (by omega)]; exact g2.1, hc6, fun s hs => ?_⟩, g3.sw (by omega) sA, fun y hy => (fA y hy).trans (g4 y hy), fun y hy => (fI y hy).trans (g5 y hy), g6⟩
          obtain ⟨k, hk, hcase⟩ := swp_ex (A3 (o + 1)) j s
          obtain ⟨hk2, hk3⟩ := swp_same q'' n' hcase
          obtain ⟨hk4, -⟩ := swp_same (I3 (o + 14)) n' hcase
          obtain ⟨⟨d, h1⟩, h2, h3, h4⟩ := g2.2.2 k (by omega)
          have hbd := g3.bd (show k < 6 by omega)
          rw [sA, hk, hk2, hk3, sI', hk4]
          exact ⟨⟨d, h1.keep (fI _ (by omega)) rfl⟩, h2, h3, h4⟩
set_option maxHeartbeats 1000000 in
/-- become: the other list is copied -/
theorem s_lbecome {o u c : Nat} {q : Nat → PP} {n : Nat → Nat} (ho : isX2 K o) (hu : isX2 K u) (hAo : PermA A o) (hAu : PermA A u) (hou : o + 15 ≤ u) (h : FLs u I L A c q n) : ConV K yX2_become wsX2_become 2 61 I L A [.ref o, .ref u] (fun I' L' A' => FLs o I' L' A c q n ∧ I' o 3 = I u 3 ∧ Fr o (o + 15) I I' L L' ∧ A' = A) := by
  have hc6 := h.2.1
  apply w_X2_become
  unfold wp_X2_become
  refine ⟨hu.1, ho.1, fun I1 e1 I2 e2 => ?_⟩
  have h22 : I2 o 2 = nI c := by rw [e2, u2_ne _ _ (by omega), e1, u2_self]; exact h.1
  have h23 : I2 o 3 = I u 3 := by rw [e2, u2_self, e1, u2_off _ _ (by omega)]
  have k2 : ∀ y, y ≠ o → I2 y = I y := fun y hy => by rw [e2, u2_off _ _ hy, e1, u2_off _ _ hy]
  unfold wp_X2_become_18
  refine ⟨fun μ I' L' A' x => ∃ i, i + μ = c ∧ x = nI i ∧ I' o 2 = nI c ∧ I' o 3 = I u 3 ∧ (∀ k, k < i → (∃ d, RowN I' L' (A (o + 1) k) (d + 1)) ∧ pl L' (A (o + 1) k) = q k ∧ I' (o + 14) k = nI (n k)) ∧ Fr o (o + 15) I I' L L' ∧ A' = A, c, ⟨0, by omega, rfl, h22, h23, fun k hk => absurd hk (Nat.not_lt_zero _), fun y hy => ⟨k2 y (by omega), rfl⟩, rfl⟩, ?_⟩
  rintro μ C hC I3 L3 A3 _ ⟨i, hi, rfl, h32, h33, hk, fr3, rfl⟩
  refine ⟨ho.1, fun z => ?_, fun z => ?_⟩
  · rw [h32, ile, tI (by omega), tI (by omega)] at z
    have : i = c := by omega
    subst this
    exact ⟨⟨h32, hc6, fun k hk' => ⟨(hk k hk').1, (hk k hk').2.1, (hk k hk').2.2, (h.2.2 k hk').2.2.2⟩⟩, h33, fr3, rfl⟩
  · rw [h32, ile, tI (by omega), tI (by omega)] at z
    have hi6 : i < 6 := by omega
    have hro := hAo.row ho hi6
    have hru := hAu.row hu hi6
    have hbo := hAo.bd hi6
    have hbu := hAu.bd hi6
    refine ⟨ho.a hi6 (tI (by omega)), hu.1, hu.a hi6 (tI (by omega)), ?_⟩
    rw [ixn (by omega)]
    refine ⟨hro.1, _, s_become hro hru, ?_⟩
    rintro I4 L4 A4 ⟨e4, e4', rfl⟩
    have c4 : ChR (· = A4 (o + 1) i) I3 I4 L3 L4 := by rw [e4, e4']; exact become_ch
    refine ⟨hu.n hi6 (tI (by omega)), ho.n hi6 (tI (by omega)), fun I5 e5 v hv => ?_⟩
    obtain ⟨⟨d, g1⟩, g2, g3, g4⟩ := h.2.2 i (by omega)
    have f3u := fr3 (A4 (u + 1) i) (by omega)
    have f3u' := fr3 (A4 (u + 1) i + 1) (by omega)
    have k5 : ∀ y, y ≠ o + 14 → I5 y = I4 y := fun y hy => by rw [e5, u2_off _ _ hy]
    have hpl : pl L4 (A4 (o + 1) i) = q i := by
      rw [← g2]; unfold pl; rw [e4', us_self, f3u'.2]
    have hu14 : I4 (u + 14) i = nI (n i) := by rw [c4.i (by omega), (fr3 (u + 14) (by omega)).1]; exact g3
    refine hC (μ - 1) _ _ _ _ (by omega) ⟨i + 1, by omega, by rw [hv, sI], ?_, ?_, fun k hk' => ?_, fr3.trans (fun y hy => ⟨?_, c4.2 y (fun r hr => by omega)⟩), rfl⟩
    · rw [k5 o (by omega), c4.i (by omega)]; exact h32
    · rw [k5 o (by omega), c4.i (by omega)]; exact h33
    · by_cases w : k = i
      · subst w
        refine ⟨⟨d, ⟨⟨?_, g1.1.2.1, fun j h3 h4 => by rw [e4', us_self, f3u'.2]; exact g1.1.2.2 j h3 h4⟩, fun e' he => by rw [hpl, ← g2]; exact g1.2 e' he⟩⟩, hpl, ?_⟩
        · rw [k5 _ (by omega), e4, u2_self, f3u.1]; exact g1.1.1
        · rw [e5, u2_self]; exact hu14
      · obtain ⟨⟨d', x1⟩, x2, x3⟩ := hk k (by omega)
        have hbk := hAo.bd (show k < 6 by omega)
        have hne := hAo.far (show k < 6 by omega) hi6 w
        refine ⟨⟨d', x1.keep (by rw [k5 _ (by omega), c4.i hne.1]) (c4.l hne.1)⟩, (pl_keep (c4.l hne.1)).trans x2, ?_⟩
        rw [e5, u2_ne _ _ (fun t => w t.2), c4.i (by omega)]; exact x3
    · rw [k5 y (by omega)]; exact c4.i (by omega)
end
