/-! PART LISTS: compareWith, begin, append, holds, isSingle, become -/
section
variable {K : Cx} {I : TI} {L : TL} {A : TA}
theorem s_compareWith {r u d e : Nat} (hr : isRow K r) (hu : isRow K u) (nr : RowN I L r (d + 1)) (nu : RowN I L u (e + 1)) (pr : 0 < pl L r d) (pu : 0 < pl L u e) : ConI K yX4_compareWith wsX4_compareWith 1 23 I L A [.ref r, .ref u] (fun v I' L' A' => ((v.toInt < 0 ∧ bef (pl L r) (pl L u)) ∨ (0 ≤ v.toInt ∧ ¬ bef (pl L r) (pl L u))) ∧ I' = I ∧ L' = L ∧ A' = A) := by
  have hd := nr.1.2.1
  have he := nu.1.2.1
  have h1 : I r 1 = nI d := by rw [nr.1.1, tp_s]
  have h2 : I u 1 = nI e := by rw [nu.1.1, tp_s]
  apply w_X4_compareWith
  unfold wp_X4_compareWith
  rw [h1, h2]
  refine ⟨hr.1, hu.1, fun z => ?_, fun z => ?_⟩
  · have hde : d = e := by rw [← Int32.toInt_inj, tI (by omega), tI (by omega)] at z; omega
    subst hde
    refine fun v16 e16 => ?_
    subst e16
    unfold wp_X4_compareWith_28
    refine ⟨fun μ I' L' A' x => μ ≤ d + 1 ∧ x = tpI μ ∧ (∀ j, μ ≤ j → pl L r j = pl L u j) ∧ I' = I ∧ L' = L ∧ A' = A, d + 1, ⟨Nat.le_refl _, (tp_s d).symm, fun j hj => by rw [nr.1.dl j hj, nu.1.dl j hj], rfl, rfl, rfl⟩, ?_⟩
    rintro μ C hC I1 L1 A1 _ ⟨hμ, rfl, heq, rfl, rfl, rfl⟩
    refine ⟨fun w => ?_, fun w => ?_⟩
    · rw [tp_lt0 (by omega)] at w
      subst w
      have e0 : pl L1 r = pl L1 u := funext fun j => heq j (Nat.zero_le _)
      exact ⟨Or.inr ⟨by decide, fun hb => by rw [e0] at hb; exact hb.irr⟩, rfl, rfl, rfl⟩
    · rw [tp_lt0 (by omega)] at w
      obtain ⟨k, rfl⟩ : ∃ k, μ = k + 1 := ⟨μ - 1, by omega⟩
      rw [tp_s]
      refine ⟨hr.1, hr.ok (by omega), hu.1, hu.ok (by omega), ?_⟩
      rw [ixn (by omega)]
      have v1 : (L1 (r + 1) k).toInt = pl L1 r k := (pl_lt (by omega)).symm
      have v2 : (L1 (u + 1) k).toInt = pl L1 u k := (pl_lt (by omega)).symm
      refine ⟨fun w2 v5 e5 => ?_, fun w2 => ⟨hr.ok (by omega), hu.ok (by omega), ?_⟩⟩
      · refine hC k _ _ _ _ (by omega) ⟨by omega, by rw [e5, ldec (by omega)], fun j hj => ?_, rfl, rfl, rfl⟩
        by_cases q : j = k
        · rw [q, ← v1, ← v2, w2]
        · exact heq j (by omega)
      · have hne : pl L1 r k ≠ pl L1 u k := fun q => w2 (jext (by rw [v1, v2]; exact q))
        refine ⟨_, w_J13_compare_74951 K I1 L1 A1 _ _ (fun v I' L' A' => ((v.toInt < 0 ∧ bef (pl L1 r) (pl L1 u)) ∨ (0 ≤ v.toInt ∧ ¬ bef (pl L1 r) (pl L1 u))) ∧ I' = I1 ∧ L' = L1 ∧ A' = A1) ?_, fun v I' L' A' h => h⟩
        unfold wp_J13_compare_74951
        have nb : pl L1 u k < pl L1 r k → ¬ bef (pl L1 r) (pl L1 u) := fun hlt hb => hb.asym ⟨k, hlt, fun j hj => (heq j (by omega)).symm⟩
        refine ⟨fun w3 => ⟨fun w4 => absurd w4 w2, fun _ => ⟨Or.inr ⟨by decide, nb ?_⟩, rfl, rfl, rfl⟩⟩, fun w3 => ⟨Or.inl ⟨by decide, k, ?_, fun j hj => heq j (by omega)⟩, rfl, rfl, rfl⟩⟩
        · rw [jle, v1, v2] at w3; omega
        · rw [jle, v1, v2] at w3; omega
  · have hne : d ≠ e := fun q => z (by rw [q])
    refine ⟨_, w_J6_compare_7cf53 K I L A _ _ (fun v I' L' A' => ((v.toInt < 0 ∧ bef (pl L r) (pl L u)) ∨ (0 ≤ v.toInt ∧ ¬ bef (pl L r) (pl L u))) ∧ I' = I ∧ L' = L ∧ A' = A) ?_, fun v I' L' A' h => h⟩
    unfold wp_J6_compare_7cf53
    refine ⟨fun w3 => ⟨fun w4 => absurd w4 z, fun _ => ⟨Or.inr ⟨by decide, fun hb => hb.asym ⟨d, ?_, fun j hj => ?_⟩⟩, rfl, rfl, rfl⟩⟩, fun w3 => ⟨Or.inl ⟨by decide, e, ?_, fun j hj => ?_⟩, rfl, rfl, rfl⟩⟩
    · rw [ile, tI (by omega), tI (by omega)] at w3
      rw [nu.1.dl d (by omega)]; exact pr
    · rw [ile, tI (by omega), tI (by omega)] at w3
      rw [nu.1.dl j (by omega), nr.1.dl j (by omega)]
    · rw [ile, tI (by omega), tI (by omega)] at w3
      rw [nr.1.dl e (by omega)]; exact pu
    · rw [ile, tI (by omega), tI (by omega)] at w3
      rw [nu.1.dl j (by omega), nr.1.dl j (by omega)]
def isX2 (K : Cx) (o : Nat) : Prop := cxS K o = shX2 o ∧ cxS K (o + 1) = .inr (2, 6) ∧ (∀ j, j < 6 → isRow K (o + 2 + 2 * j)) ∧ cxS K (o + 14) = .inr (0, 6)
/-- the rows stand in some order -/
def PermA (A : TA) (o : Nat) : Prop := (∀ j, j < 6 → ∃ k, k < 6 ∧ A (o + 1) j = o + 2 + 2 * k) ∧ ∀ i j, i < 6 → j < 6 → i ≠ j → A (o + 1) i ≠ A (o + 1) j
theorem PermA.row {o j : Nat} (h : PermA A o) (ho : isX2 K o) (hj : j < 6) : isRow K (A (o + 1) j) := by
  obtain ⟨k, hk, e⟩ := h.1 j hj
  rw [e]; exact ho.2.2.1 k hk
theorem PermA.bd {o j : Nat} (h : PermA A o) (hj : j < 6) : o + 2 ≤ A (o + 1) j ∧ A (o + 1) j + 1 < o + 14 := by
  obtain ⟨k, hk, e⟩ := h.1 j hj
  omega
theorem PermA.far {o i j : Nat} (h : PermA A o) (hi : i < 6) (hj : j < 6) (hij : i ≠ j) : A (o + 1) i ≠ A (o + 1) j ∧ A (o + 1) i ≠ A (o + 1) j + 1 := by
  obtain ⟨k, hk, e⟩ := h.1 i hi
  obtain ⟨l, hl, e'⟩ := h.1 j hj
  have := h.2 i j hi hj hij
  omega
theorem isX2.a {o j : Nat} (h : isX2 K o) (hj : j < 6) {x : Int32} (hx : x.toInt = j) : aok (cxS K) (o + 1) 2 x := ⟨6, h.2.1, inOf hx hj⟩
theorem isX2.n {o j : Nat} (h : isX2 K o) (hj : j < 6) {x : Int32} (hx : x.toInt = j) : aok (cxS K) (o + 14) 0 x := ⟨6, h.2.2.2, inOf hx hj⟩
/-- the list holds q, each so often as n says -/
def FLs (o : Nat) (I : TI) (L : TL) (A : TA) (c : Nat) (q : Nat → PP) (n : Nat → Nat) : Prop := I o 2 = nI c ∧ c ≤ 6 ∧ ∀ i, i < c → (∃ d, RowN I L (A (o + 1) i) (d + 1)) ∧ pl L (A (o + 1) i) = q i ∧ I (o + 14) i = nI (n i) ∧ n i ≤ 6
theorem FLs.fr {o a b c : Nat} {q : Nat → PP} {n : Nat → Nat} {I' : TI} {L' : TL} (hA : PermA A o) (h : FLs o I L A c q n) (hf : Fr a b I I' L L') (hab : o + 15 ≤ a ∨ b ≤ o) : FLs o I' L' A c q n := by
  refine ⟨by rw [(hf o (by omega)).1]; exact h.1, h.2.1, fun i hi => ?_⟩
  obtain ⟨⟨d, h1⟩, h2, h3, h4⟩ := h.2.2 i hi
  have hb := hA.bd (show i < 6 by have := h.2.1; omega)
  exact ⟨⟨d, h1.keep (hf _ (by omega)).1 (hf _ (by omega)).2⟩, (pl_keep (hf _ (by omega)).2).trans h2, by rw [(hf (o + 14) (by omega)).1]; exact h3, h4⟩
theorem s_begin {o : Nat} {x : Int32} (ho : isX2 K o) : ConV K yX2_begin wsX2_begin 0 0 I L A [.ref o, .int x] (fun I' L' A' => I' o 2 = 0 ∧ I' o 3 = x ∧ (∀ y, y ≠ o → I' y = I y) ∧ L' = L ∧ A' = A) := by
  apply w_X2_begin
  unfold wp_X2_begin
  refine ⟨ho.1, fun I2 e2 I3 e3 => ⟨?_, ?_, fun y hy => ?_, rfl, rfl⟩⟩
  · rw [e3, u2_ne _ _ (by omega), e2, u2_self]
  · rw [e3, u2_self]
  · rw [e3, u2_off _ _ hy, e2, u2_off _ _ hy]
theorem s_append {o u c d : Nat} {q : Nat → PP} {n : Nat → Nat} (ho : isX2 K o) (hA : PermA A o) (hu : isRow K u) (hout : u + 1 < o ∨ o + 15 ≤ u) (h : FLs o I L A c q n) (hc : c < 6) (nu : RowN I L u (d + 1)) : ConV K yX2_append wsX2_append 2 61 I L A [.ref o, .ref u] (fun I' L' A' => FLs o I' L' A (c + 1) (upN q c (pl L u)) (upN n c 0) ∧ I' o 3 = I o 3 ∧ Fr o (o + 15) I I' L L' ∧ A' = A) := by
  have hix : (I o 2).toInt = (c : Int) := by rw [h.1, tI (by omega)]
  have hb := hA.bd hc
  apply w_X2_append
  unfold wp_X2_append
  refine ⟨ho.1, fun z => ?_, fun z => ⟨ho.a hc hix, ?_⟩⟩
  · rw [ile, li6, hix] at z; omega
  rw [ix_of hix]
  have hrow := hA.row ho hc
  refine ⟨hrow.1, _, s_become hrow hu, ?_⟩
  rintro I1 L1 A1 ⟨e1, e1', rfl⟩
  have c1 : ChR (· = A1 (o + 1) c) I I1 L L1 := by rw [e1, e1']; exact become_ch
  have h12 : I1 o 2 = nI c := by rw [c1.i (by omega)]; exact h.1
  have hix1 : (I1 o 2).toInt = (c : Int) := by rw [h12, tI (by omega)]
  refine ⟨ho.n hc hix1, fun I2 e2 I3 e3 => ?_⟩
  rw [ix_of hix1] at e2
  have k3 : ∀ y, y ≠ o → y ≠ o + 14 → I3 y = I1 y := fun y h1 h2 => by rw [e3, u2_off _ _ h1, e2, u2_off _ _ h2]
  have hpl : pl L1 (A1 (o + 1) c) = pl L u := by unfold pl; rw [e1', us_self]
  refine ⟨⟨?_, by omega, fun i hi => ?_⟩, ?_, fun y hy => ?_, rfl⟩
  · rw [e3, u2_self, e2, u2_off _ _ (by omega), h12, sI]
  · by_cases w : i = c
    · subst w
      have e4 : upN q i (pl L u) i = pl L u := if_pos rfl
      have e5 : upN n i 0 i = 0 := if_pos rfl
      rw [e4, e5]
      refine ⟨⟨d, ?_⟩, hpl, ?_, by omega⟩
      · exact ⟨⟨by rw [k3 _ (by omega) (by omega), e1, u2_self]; exact nu.1.1, nu.1.2.1, fun j h3 h4 => by rw [e1', us_self]; exact nu.1.2.2 j h3 h4⟩, fun e' he => by rw [hpl]; exact nu.2 e' he⟩
      · rw [e3, u2_off _ _ (by omega), e2, u2_self]; rfl
    · have e4 : upN q c (pl L u) i = q i := if_neg w
      have e5 : upN n c 0 i = n i := if_neg w
      rw [e4, e5]
      obtain ⟨⟨d', h1⟩, h2, h3, h4⟩ := h.2.2 i (by omega)
      have hbi := hA.bd (show i < 6 by omega)
      have hne := hA.far (show i < 6 by omega) hc w
      have hl : L1 (A1 (o + 1) i + 1) = L (A1 (o + 1) i + 1) := c1.l hne.1
      refine ⟨⟨d', h1.keep (by rw [k3 _ (by omega) (by omega), c1.i hne.1]) hl⟩, (pl_keep hl).trans h2, ?_, h4⟩
      rw [e3, u2_off _ _ (by omega), e2, u2_ne _ _ (fun t => w t.2), c1.i (by omega)]; exact h3
  · rw [e3, u2_ne _ _ (by omega), e2, u2_off _ _ (by omega), c1.i (by omega)]
  · exact ⟨by rw [k3 y (by omega) (by omega)]; exact c1.i (by omega), c1.2 y (fun r hr => by omega)⟩
theorem s_holds {o c : Nat} {i : Int32} (ho : isX2 K o) (hc : I o 2 = nI c) (hc6 : c ≤ 6) : ConI K yX2_holds wsX2_holds 0 0 I L A [.ref o, .int i] (fun v I' L' A' => ((v = 1 ∧ 0 ≤ i.toInt ∧ i.toInt < c) ∨ (v = 0 ∧ ¬ (0 ≤ i.toInt ∧ i.toInt < c))) ∧ I' = I ∧ L' = L ∧ A' = A) := by
  apply w_X2_holds
  unfold wp_X2_holds
  refine ⟨fun z => ⟨Or.inr ⟨rfl, ?_⟩, rfl, rfl, rfl⟩, fun z => ⟨ho.1, fun z2 => ⟨Or.inr ⟨rfl, ?_⟩, rfl, rfl, rfl⟩, fun z2 => ⟨Or.inl ⟨rfl, ?_⟩, rfl, rfl, rfl⟩⟩⟩
  · rw [ilt, li0] at z; omega
  · rw [hc, ile, tI (by omega)] at z2; omega
  · rw [ilt, li0] at z; rw [hc, ile, tI (by omega)] at z2; omega
theorem s_isSingle {o c : Nat} {q : Nat → PP} {n : Nat → Nat} (ho : isX2 K o) (h : FLs o I L A c q n) : ConI K yX2_isSingle wsX2_isSingle 0 0 I L A [.ref o] (fun v I' L' A' => ((v = 1 ∧ c = 1 ∧ n 0 = 1) ∨ (v = 0 ∧ ¬ (c = 1 ∧ n 0 = 1))) ∧ I' = I ∧ L' = L ∧ A' = A) := by
  have hc6 := h.2.1
  have l1 : (1 : Int32) = nI 1 := rfl
  apply w_X2_isSingle
  unfold wp_X2_isSingle
  refine ⟨ho.1, fun z => ⟨ho.n (j := 0) (by omega) (by decide), ?_⟩, fun z => ⟨Or.inr ⟨rfl, fun w => z (by rw [h.1, w.1]; rfl)⟩, rfl, rfl, rfl⟩⟩
  have hc1 : c = 1 := by
    rw [h.1, ← Int32.toInt_inj, tI (by omega), li1] at z
    omega
  subst hc1
  rw [ix0]
  obtain ⟨-, -, h3, h4⟩ := h.2.2 0 (by omega)
  rw [h3]
  refine ⟨fun w => ⟨Or.inl ⟨rfl, rfl, ?_⟩, rfl, rfl, rfl⟩, fun w => ⟨Or.inr ⟨rfl, fun q => w (by rw [q.2]; rfl)⟩, rfl, rfl, rfl⟩⟩
  rw [← Int32.toInt_inj, tI (by omega), li1] at w
  omega
end
