/-! ROWS AS POLYNOMIALS -/
section
variable {K : Cx} {I : TI} {L : TL} {A : TA}
/-- the polynomial of a row -/
def pl (L : TL) (r : Nat) : PP := fun k => if k < 13 then (L (r + 1) k).toInt else 0
theorem pl_lt {L : TL} {r k : Nat} (h : k < 13) : pl L r k = (L (r + 1) k).toInt := if_pos h
/-- top says a length behind which there is nothing -/
def St (I : TI) (L : TL) (r d : Nat) : Prop := I r 1 = tpI d ∧ d ≤ 13 ∧ ∀ k, d ≤ k → k < 13 → L (r + 1) k = 0
theorem St.dl {I : TI} {L : TL} {r d : Nat} (h : St I L r d) : dl (pl L r) d := fun k hk => by
  by_cases q : k < 13
  · rw [pl_lt q, h.2.2 k hk q]; rfl
  · exact if_neg q
theorem RowIs.st {I : TI} {L : TL} {r : Nat} {f : Nat → Int64} (h : RowIs I L r f) : St I L r (ln f 13) := ⟨h.2, ln_le f 13, fun k h1 h2 => by rw [h.1 k h2]; exact ln_out f 13 k h1 h2⟩
theorem St.keep {I I' : TI} {L L' : TL} {r d : Nat} (h : St I L r d) (hi : I' r = I r) (hl : L' (r + 1) = L (r + 1)) : St I' L' r d := ⟨by rw [hi]; exact h.1, h.2.1, by rw [hl]; exact h.2.2⟩
theorem St.ch {S : Nat → Prop} {I I' : TI} {L L' : TL} {r d : Nat} (h : St I L r d) (hc : ChR S I I' L L') (hr : ¬ S r) : St I' L' r d := h.keep (hc.i hr) (hc.l hr)
theorem pl_keep {L L' : TL} {r : Nat} (hl : L' (r + 1) = L (r + 1)) : pl L' r = pl L r := by unfold pl; rw [hl]
/-- one place alone -/
def mono (i : Nat) (c : Int) : PP := fun k => if k = i then c else 0
theorem pm_mono (b : PP) (c : Int) : ∀ (i k : Nat), pm (mono i c) b k = if i ≤ k then c * b (k - i) else 0
  | 0, k => by
    have : mono 0 c = pk0 c := funext fun j => by cases j <;> simp [mono, pk0]
    rw [this, pm_c0]
    simp
  | i + 1, k => by
    have : mono (i + 1) c = px (mono i c) := funext fun j => by
      cases j with
      | zero => simp [mono, px]
      | succ j => simp [mono, px]
    rw [this, pm_x]
    cases k with
    | zero => simp [px]
    | succ k =>
      show pm (mono i c) b k = _
      rw [pm_mono b c i k]
      by_cases h : i ≤ k
      · rw [if_pos h, if_pos (by omega), show k + 1 - (i + 1) = k - i by omega]
      · rw [if_neg h, if_neg (by omega)]
theorem ct_succ (a : PP) (i : Nat) : ct a (i + 1) = pa (ct a i) (mono i (a i)) := funext fun k => by
  show (if k < i + 1 then a k else 0) = (if k < i then a k else 0) + (if k = i then a i else 0)
  by_cases h : k < i
  · rw [if_pos h, if_pos (by omega), if_neg (by omega)]; omega
  · by_cases h2 : k = i
    · rw [if_neg h, if_pos (by omega), if_pos h2, h2]; omega
    · rw [if_neg h, if_neg (by omega), if_neg h2]; rfl
theorem pm_ct (a b : PP) (i k : Nat) : pm (ct a (i + 1)) b k = pm (ct a i) b k + if i ≤ k then a i * b (k - i) else 0 := by
  rw [ct_succ, pm_add_l, pm_mono]
theorem ct_all {a : PP} {n : Nat} (h : dl a n) : ct a n = a := funext fun k => by
  by_cases q : k < n
  · exact ct_lt q
  · rw [ct_dl a n k (by omega), h k (by omega)]
theorem pm_bd {N : Nat} {U : PP} (hU : ∀ k, (U k).natAbs ≤ N) : ∀ (n : Nat) (a : PP) (k : Nat), dl a n → (pm a U k).natAbs ≤ sa a n * N
  | 0, a, k, h => by
    have e : a = p0 := funext fun j => h j (Nat.zero_le j)
    rw [e, pm_0l]
    simp [p0]
  | n + 1, a, k, h => by
    have h0 : (a 0 * U k).natAbs ≤ (a 0).natAbs * N := mul_ab (Nat.le_refl _) (hU k)
    cases k with
    | zero => rw [pm, sa, Nat.add_mul]; omega
    | succ k =>
      have h1 := pm_bd hU n (pt a) k (pt_dl h)
      rw [pm, sa, Nat.add_mul]
      have := Int.natAbs_add_le (a 0 * U (k + 1)) (pm (pt a) U k)
      omega
/-- bounds of a partial product -/
theorem pm_part {a b : PP} {M N n i k : Nat} (ha : ∀ k, (a k).natAbs ≤ M) (hb : ∀ k, (b k).natAbs ≤ N) (hi : i ≤ n) : (pm (ct a i) b k).natAbs ≤ n * M * N := by
  have h1 := pm_bd hb i (ct a i) k (ct_dl a i)
  have h2 : sa (ct a i) i ≤ i * M := sa_le i (ct a i) (fun k => by
    unfold ct
    split
    · exact ha k
    · simp)
  have h3 : sa (ct a i) i * N ≤ i * M * N := Nat.mul_le_mul_right N h2
  have h4 : i * M * N ≤ n * M * N := Nat.mul_le_mul_right N (Nat.mul_le_mul_right M hi)
  omega
set_option maxHeartbeats 1000000 in
/-- becomeProduct: this row is neither of the two -/
theorem s_becomeProduct {r u w du dw M N : Nat} (h : isRow K r) (hu : isRow K u) (hw : isRow K w) (hru : r ≠ u) (hrw : r ≠ w) (su : St I L u du) (sw : St I L w dw) (hM : ∀ k, (pl L u k).natAbs ≤ M) (hN : ∀ k, (pl L w k).natAbs ≤ N) (hB : 14 * M * N < 9223372036854775808) :
    ConV K yX4_becomeProduct wsX4_becomeProduct 1 21 I L A [.ref r, .ref u, .ref w] (fun I' L' A' => (∀ k, k < 13 → (L' (r + 1) k).toInt = pm (pl L u) (pl L w) k) ∧ I' r 1 = tpI (ln (L' (r + 1)) 13) ∧ ChR (· = r) I I' L L' ∧ A' = A) := by
  have hau : du ≤ 13 := su.2.1
  have haw : dw ≤ 13 := sw.2.1
  have hMN : M * N ≤ 14 * M * N := Nat.mul_le_mul_right N (by omega)
  apply w_X4_becomeProduct
  unfold wp_X4_becomeProduct
  refine ⟨h.1, _, s_clear h, ?_⟩
  rintro I1 L1 A1 ⟨hz, hc1, hA1⟩
  unfold wp_X4_becomeProduct_6
  refine ⟨fun μ I' L' A' x => ∃ i, i + μ = du ∧ x = nI i ∧ I' = I1 ∧ (∀ k, k < 13 → (L' (r + 1) k).toInt = pm (ct (pl L u) i) (pl L w) k) ∧ ChR (· = r) I I' L L' ∧ A' = A, du, ⟨0, by omega, rfl, rfl, fun k hk => ?_, hc1, hA1⟩, ?_⟩
  · rw [hz.1 k hk]
    have : ct (pl L u) 0 = p0 := funext fun k => if_neg (Nat.not_lt_zero k)
    rw [this, pm_0l]
    rfl
  rintro μ C hC I' L' A' _ ⟨i, hi, rfl, rfl, h1, hc, hA⟩
  have hIu : I' u 1 = tpI du := (su.ch hc (fun e => hru e.symm)).1
  refine ⟨hu.1, fun q => ⟨h.1, _, s_settle h, ?_⟩, fun q => ?_⟩
  · rw [hIu, tp_lt (by omega) (by omega)] at q
    have : i = du := by omega
    subst this
    rintro I2 L2 A2 ⟨rfl, rfl, hA2⟩
    refine ⟨fun k hk => ?_, ?_, hc.trans (ch_u2 _), hA2.trans hA⟩
    · rw [h1 k hk, ct_all su.dl]
    · rw [u2_self]
  · rw [hIu, tp_lt (by omega) (by omega)] at q
    unfold wp_X4_becomeProduct_17
    refine ⟨fun ν I'' L'' A'' x3 x4 => ∃ j, j + ν = 14 ∧ i + j ≤ 13 ∧ j ≤ dw ∧ x3 = nI i ∧ x4 = nI j ∧ I'' = I' ∧ (∀ k, k < 13 → (L'' (r + 1) k).toInt = pm (ct (pl L u) i) (pl L w) k + if i ≤ k ∧ k < i + j then pl L u i * pl L w (k - i) else 0) ∧ ChR (· = r) I I'' L L'' ∧ A'' = A, 14, ⟨0, rfl, by omega, by omega, rfl, rfl, rfl, fun k hk => ?_, hc, hA⟩, ?_⟩
    · rw [h1 k hk, if_neg (by omega)]; omega
    rintro ν C' hC' I'' L'' A'' _ _ ⟨j, hj, hij, hjd, rfl, rfl, rfl, h2, hc2, hA2⟩
    have hIw : I'' w 1 = tpI dw := (sw.ch hc2 (fun e => hrw e.symm)).1
    -- leaving the inner loop
    have leave : (j = dw ∨ i + j = 13) → ∀ v : Int32, v = nI i + 1 → C I'' L'' A'' v := by
      intro hl v hv
      refine hC (μ - 1) _ _ _ _ (by omega) ⟨i + 1, by omega, by rw [hv, sI], rfl, fun k hk => ?_, hc2, hA2⟩
      rw [h2 k hk, pm_ct]
      congr 1
      by_cases y : i ≤ k
      · rw [if_pos y]
        by_cases y2 : k < i + j
        · rw [if_pos ⟨y, y2⟩]
        · rw [if_neg (fun t => y2 t.2), sw.dl (k - i) (by omega)]
          simp
      · rw [if_neg y, if_neg (fun t => y t.1)]
    refine ⟨hw.1, fun q2 v hv => ?_, fun q2 => ⟨fun q3 v hv => ?_, fun q3 => ?_⟩⟩
    · rw [hIw, tp_lt (by omega) (by omega)] at q2
      exact leave (Or.inl (by omega)) v hv
    · rw [ile, li13, iadd (by rw [tI (by omega), tI (by omega)]; omega) (by rw [tI (by omega), tI (by omega)]; omega), tI (by omega), tI (by omega)] at q3
      exact leave (Or.inr (by omega)) v hv
    · rw [hIw, tp_lt (by omega) (by omega)] at q2
      have hs : (nI i + nI j).toInt = ((i + j : Nat) : Int) := by
        rw [iadd (by rw [tI (by omega), tI (by omega)]; omega) (by rw [tI (by omega), tI (by omega)]; omega), tI (by omega), tI (by omega)]; omega
      rw [ile, li13, hs] at q3
      refine ⟨h.1, h.ok' hs (by omega), hu.1, hu.ok (by omega), hw.ok (by omega), h.ok' hs (by omega), fun L5 e5 v hv => ?_⟩
      rw [ix_of hs, ixn (by omega), ixn (by omega), hc2.l (fun e => hru e.symm), hc2.l (fun e => hrw e.symm)] at e5
      refine hC' (ν - 1) _ _ _ _ _ (by omega) ⟨j + 1, by omega, by omega, by omega, rfl, by rw [hv, sI], rfl, fun k hk => ?_, ⟨hc2.1, fun x hx => ?_⟩, hA2⟩
      · rw [e5]
        by_cases y : k = i + j
        · subst y
          rw [u2_self]
          have e1 := h2 (i + j) hk
          rw [if_neg (by omega)] at e1
          have b1 := pm_part (n := 13) (k := i + j) hM hN (show i ≤ 13 by omega)
          have b2 := hM i
          have b3 := hN j
          rw [pl_lt (by omega)] at b2 b3
          have b4 := mul_ab b2 b3
          have b5 : (14 * M * N) = 13 * M * N + M * N := by rw [Nat.mul_assoc, Nat.mul_assoc]; omega
          have e2 : (L (u + 1) i * L (w + 1) j).toInt = (L (u + 1) i).toInt * (L (w + 1) j).toInt := jmulB b2 b3 (by omega)
          rw [jadd (by rw [e1, e2]; omega) (by rw [e1, e2]; omega), e1, e2, if_pos ⟨by omega, by omega⟩, show i + j - i = j by omega, pl_lt (show i < 13 by omega), pl_lt (show j < 13 by omega)]
          omega
        · rw [u2_ne _ _ (fun t => y t.2), h2 k hk]
          congr 1
          by_cases y2 : i ≤ k ∧ k < i + j
          · rw [if_pos y2, if_pos ⟨y2.1, by omega⟩]
          · rw [if_neg y2, if_neg (fun t => y2 ⟨t.1, by omega⟩)]
      · rw [e5, u2_off _ _ (hx r rfl)]
        exact hc2.2 x hx
/-- becomeSlope: this row is not the other -/
theorem s_becomeSlope {r u du : Nat} (h : isRow K r) (hu : isRow K u) (hru : r ≠ u) (su : St I L u du) : ConV K yX4_becomeSlope wsX4_becomeSlope 1 21 I L A [.ref r, .ref u] (fun I' L' A' => RowIs I' L' r (fun k => if k < 12 then Int32.toInt64 (nI (k + 1)) * L (u + 1) (k + 1) else 0) ∧ ChR (· = r) I I' L L' ∧ A' = A) := by
  have hau : du ≤ 13 := su.2.1
  apply w_X4_becomeSlope
  unfold wp_X4_becomeSlope
  refine ⟨h.1, _, s_clear h, ?_⟩
  rintro I1 L1 A1 ⟨hz, hc1, rfl⟩
  unfold wp_X4_becomeSlope_6
  refine ⟨fun μ I' L' A' x => ∃ i, i + μ = 14 ∧ (i ≤ du ∨ i = 1) ∧ 1 ≤ i ∧ x = nI i ∧ I' = I1 ∧ (∀ k, k < 13 → L' (r + 1) k = if k + 1 < i then Int32.toInt64 (nI (k + 1)) * L (u + 1) (k + 1) else 0) ∧ ChR (· = r) I I' L L' ∧ A' = A1, 13, ⟨1, rfl, Or.inr rfl, Nat.le_refl 1, rfl, rfl, fun k hk => ?_, hc1, rfl⟩, ?_⟩
  · rw [hz.1 k hk, if_neg (by omega)]
  rintro μ C hC I' L' _ _ ⟨i, hi, hid, hi1, rfl, rfl, h1, hc, rfl⟩
  have hIu : I' u 1 = tpI du := (su.ch hc (fun e => hru e.symm)).1
  refine ⟨hu.1, fun q => ⟨h.1, _, s_settle h, ?_⟩, fun q => ?_⟩
  · rw [hIu, tp_lt (by omega) (by omega)] at q
    rintro I2 L2 A2 ⟨rfl, rfl, rfl⟩
    have key : ∀ k, k < 13 → L2 (r + 1) k = if k < 12 then Int32.toInt64 (nI (k + 1)) * L (u + 1) (k + 1) else 0 := fun k hk => by
      rw [h1 k hk]
      by_cases y : k + 1 < i
      · rw [if_pos y, if_pos (by omega)]
      · rw [if_neg y]
        by_cases y2 : k < 12
        · rw [if_pos y2, su.2.2 (k + 1) (by omega) (by omega), Int64.mul_zero]
        · rw [if_neg y2]
    refine ⟨⟨key, ?_⟩, hc.trans (ch_u2 _), rfl⟩
    rw [u2_self]
    exact congrArg tpI (ln_congr 13 (fun k hk => by rw [key k hk]))
  · rw [hIu, tp_lt (by omega) (by omega)] at q
    have hs : (nI i - 1).toInt = ((i - 1 : Nat) : Int) := by rw [tm1 (by omega)]; omega
    refine ⟨h.1, hu.ok (by omega), h.ok' hs (by omega), fun L5 e5 v hv => ?_⟩
    rw [ix_of hs, ixn (by omega), hc.l (fun e => hru e.symm)] at e5
    refine hC (μ - 1) _ _ _ _ (by omega) ⟨i + 1, by omega, Or.inl (by omega), by omega, by rw [hv, sI], rfl, fun k hk => ?_, ⟨hc.1, fun x hx => ?_⟩, rfl⟩
    · rw [e5]
      by_cases y : k = i - 1
      · subst y
        rw [u2_self, if_pos (by omega), show i - 1 + 1 = i by omega]
      · rw [u2_ne _ _ (fun t => y t.2), h1 k hk]
        by_cases y2 : k + 1 < i
        · rw [if_pos y2, if_pos (by omega)]
        · rw [if_neg y2, if_neg (by omega)]
    · rw [e5, u2_off _ _ (hx r rfl)]
      exact hc.2 x hx
end
