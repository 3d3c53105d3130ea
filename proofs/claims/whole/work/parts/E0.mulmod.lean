/-! RESIDUES: addAt, multiplyModulo -/
section
variable {K : Cx} {I : TI} {L : TL} {A : TA}
theorem s_addAt {o r k p : Nat} {x : Int64} (ho : cxS K o = shX3 o) (h : isRow K r) (hp : mdl L o = p) (hp1 : 1 < p) (hp2 : p < 67108864) (hr : rsd p (pl L r)) (hk : k < 13) (hx : -67108864 ≤ x.toInt ∧ x.toInt ≤ 67108864) : ConV K yX3_addAt wsX3_addAt 1 40 I L A [.ref o, .ref r, .int (nI k), .long x] (fun I' L' A' => (∀ j, pl L' r j = if j = k then (pl L r k + x.toInt) % p else pl L r j) ∧ rsd p (pl L' r) ∧ (∃ d', RowN I' L' r d') ∧ ChR (· = r) I I' L L' ∧ A' = A) := by
  have hm : (L o 0).toInt = p := hp
  have hk' := hr k
  rw [pl_lt hk] at hk'
  apply w_X3_addAt
  unfold wp_X3_addAt
  refine ⟨h.1, h.ok hk, ho, fun z => by rw [j0, hm] at z; omega, h.ok hk, fun L6 e6 => ⟨_, s_settle h, ?_⟩⟩
  rintro I1 L1 A1 ⟨rfl, rfl, hA1⟩
  rw [ixn (by omega)] at e6
  have hs : (L (r + 1) k + x).toInt = (L (r + 1) k).toInt + x.toInt := jadd (by omega) (by omega)
  have hv : (fmJ (L (r + 1) k + x) (L o 0)).toInt = (pl L r k + x.toInt) % p := by
    rw [fm_i (by rw [hm]; omega) (by rw [hs]; omega), hs, hm, pl_lt hk]
  have key : ∀ j, pl L1 r j = if j = k then (pl L r k + x.toInt) % p else pl L r j := fun j => by
    by_cases y : j = k
    · rw [if_pos y, y, pl_lt hk, e6, u2_self, hv]
    · rw [if_neg y]
      unfold pl
      rw [e6, u2_ne _ _ (fun t => y t.2)]
  refine ⟨key, fun j => ?_, ⟨_, rn_ln (u2_self _ _ _ _)⟩, ⟨fun y hy => u2_off _ _ hy, fun y hy => by rw [e6, u2_off _ _ (hy r rfl)]⟩, hA1⟩
  rw [key j]
  split
  · exact ⟨Int.emod_nonneg _ (by omega), Int.emod_lt_of_pos _ (by omega)⟩
  · exact hr j
theorem s_fill {o : Nat} (h : cxS K (o + 1) = .inr (1, 13)) : ConV K yJ7_fill_d0a16 wsJ7_fill_d0a16 0 0 I L A [.ref (o + 1), .long 0] (fun I' L' A' => I' = I ∧ (∀ k, k < 13 → L' (o + 1) k = 0) ∧ (∀ y, y ≠ o + 1 → L' y = L y) ∧ A' = A) := by
  apply w_J7_fill_d0a16
  unfold wp_J7_fill_d0a16 wp_J7_fill_d0a16_6
  refine ⟨1, 13, 13, ⟨h, by decide, by decide⟩, fun μ I' L' A' x3 x4 => ∃ i, i + μ = 13 ∧ x3 = nI i ∧ x4 = 13 ∧ I' = I ∧ (∀ k, k < i → L' (o + 1) k = 0) ∧ (∀ y, y ≠ o + 1 → L' y = L y) ∧ A' = A, 13, ⟨0, rfl, rfl, rfl, rfl, fun k hk => absurd hk (Nat.not_lt_zero _), fun _ _ => rfl, rfl⟩, ?_⟩
  rintro μ C hC I' L' A' _ _ ⟨i, hi, rfl, rfl, rfl, h1, h2, hA⟩
  refine ⟨fun q => ?_, fun q => ?_⟩
  · have e := (ge13 (by omega)).mp q
    subst e
    exact ⟨rfl, h1, h2, hA⟩
  · have hi13 : i < 13 := by
      rcases Nat.lt_or_ge i 13 with z | z
      · exact z
      · exact absurd ((ge13 (by omega)).mpr (by omega)) q
    refine ⟨⟨13, h, inOf (tI (by omega)) hi13⟩, fun L5 e5 v hv => ?_⟩
    refine hC (μ - 1) _ _ _ _ _ (by omega) ⟨i + 1, by omega, by rw [hv, sI], rfl, rfl, fun k hk => ?_, fun x hx => ?_, hA⟩
    · rw [e5, ixn (by omega)]
      by_cases z : k = i
      · rw [z, u2_self]
      · rw [u2_ne _ _ (fun q => z q.2)]
        exact h1 k (by omega)
    · rw [e5, u2_off _ _ hx]
      exact h2 x hx
/-- the last loop: residues of the wide row -/
theorem mm_out {o out a b m p : Nat} {Q : TI → TL → TA → Prop} (ho : isX3 K o) (h : isRow K out) (hp : mdl L o = p) (hp1 : 1 < p) (hb : ∀ k, -9223372036854775808 < pl L o k) (hQ : ∀ (I' : TI) (L' : TL) (A' : TA), (∀ k, pl L' out k = pl L o k % p) → (∃ d', RowN I' L' out d') → ChR (· = out) I I' L L' → A' = A → Q I' L' A') : wp_X3_multiplyModulo_200 K o out a b m I L A 0 Q := by
  have ho1 := x3_ne ho.1 h
  have hon := x3_nr ho.1 h
  unfold wp_X3_multiplyModulo_200
  refine ⟨fun μ I' L' A' x => ∃ i, i + μ = 13 ∧ x = nI i ∧ I' = I ∧ (∀ k, k < i → L' (out + 1) k = fmJ (L (o + 1) k) (L o 0)) ∧ (∀ y, y ≠ out + 1 → L' y = L y) ∧ A' = A, 13, ⟨0, rfl, rfl, rfl, fun k hk => absurd hk (Nat.not_lt_zero _), fun _ _ => rfl, rfl⟩, ?_⟩
  rintro μ C hC I' L' A' _ ⟨i, hi, rfl, rfl, h1, h3, hA⟩
  refine ⟨fun z => ⟨h.1, _, s_settle h, ?_⟩, fun z => ?_⟩
  · have e := (ge13 (by omega)).mp z
    subst e
    rintro I4 L5 A6 ⟨rfl, rfl, hA6⟩
    have hri : RowIs (u2 I' out 1 (tpI (ln (L5 (out + 1)) 13))) L5 out (fun k => fmJ (L (o + 1) k) (L o 0)) := ⟨fun k hk => h1 k hk, by
      rw [u2_self]
      exact congrArg tpI (ln_congr 13 (fun k hk => by rw [h1 k hk]))⟩
    refine hQ _ _ _ (fun k => ?_) ⟨_, hri.rn⟩ ⟨fun x hx => u2_off _ _ hx, fun x hx => h3 x (hx out rfl)⟩ (hA6.trans hA)
    have := reduce_i (o := o) (r := out) (u := o) (by rw [hp]; omega) hb hri k
    rw [hp] at this
    exact this
  · have hi13 : i < 13 := by
      rcases Nat.lt_or_ge i 13 with y | y
      · exact y
      · exact absurd ((ge13 (by omega)).mpr (by omega)) z
    refine ⟨h.1, ho.1, ⟨13, ho.2.2.2, inOf (tI (by omega)) hi13⟩, fun w => by rw [h3 o ho1, j0] at w; unfold mdl at hp; omega, h.ok hi13, fun L5 e5 v hv => ?_⟩
    rw [ixn (by omega), h3 o ho1, h3 (o + 1) (by omega)] at e5
    refine hC (μ - 1) _ _ _ _ (by omega) ⟨i + 1, by omega, by rw [hv, sI], rfl, fun k hk => ?_, fun x hx => ?_, hA⟩
    · rw [e5]
      by_cases y : k = i
      · rw [y, u2_self]
      · rw [u2_ne _ _ (fun t => y t.2)]
        exact h1 k (by omega)
    · rw [e5, u2_off _ _ hx]
      exact h3 x hx
/-- one step of the rest: the highest place goes -/
theorem mm_in {o out a b m p e k : Nat} {t : Int64} {Q : TI → TL → TA → Prop} {C : TI → TL → TA → Int32 → Prop} (ho : isX3 K o) (hm : isRow K m) (hp1 : 1 < p) (hp2 : p < 67108864) (rm : rsd p (pl L m)) (sm : St I L m (e + 1)) (hek : e ≤ k) (hk : k < 13) (ht : t.toInt.natAbs < p) (hB : ∀ i, (pl L o i).natAbs ≤ 20 * 4503599627370496) (hC : ∀ (L' : TL), (∀ i, pl L' o i = pl L o i - if k - e ≤ i ∧ i < k then t.toInt * pl L m (i - (k - e)) else 0) → (∀ y, y ≠ o + 1 → L' y = L y) → ∀ v : Int32, v = nI k + (-1) → C I L' A v) : wp_X3_multiplyModulo_138 K o out a b m C I L A (nI k) t 0 Q := by
  have hom := x3_nr ho.1 hm
  unfold wp_X3_multiplyModulo_138
  refine ⟨fun μ I' L' A' x5 x6 x8 => ∃ j, j + μ = e ∧ x5 = nI k ∧ t = x6 ∧ x8 = nI j ∧ I' = I ∧ (∀ i, pl L' o i = pl L o i - if k - e ≤ i ∧ i < k - e + j then t.toInt * pl L m (i - (k - e)) else 0) ∧ (∀ y, y ≠ o + 1 → L' y = L y) ∧ A' = A, e, ⟨0, by omega, rfl, rfl, rfl, rfl, fun i => by rw [if_neg (by omega)]; omega, fun _ _ => rfl, rfl⟩, ?_⟩
  rintro μ D hD I' L' A' _ _ _ ⟨j, hj, rfl, rfl, rfl, rfl, h1, h3, rfl⟩
  have hIm : I' m 1 = nI e := by rw [sm.1, tp_s]
  have leave : (j = e ∨ t = 0) → ∀ v : Int32, v = nI k + (-1) → C I' L' A' v := fun hl v hv => by
    refine hC L' (fun i => ?_) h3 v hv
    rw [h1 i]
    congr 1
    by_cases y : k - e ≤ i ∧ i < k - e + j
    · rw [if_pos y, if_pos ⟨y.1, by omega⟩]
    · rw [if_neg y]
      by_cases y2 : k - e ≤ i ∧ i < k
      · rw [if_pos y2]
        rcases hl with hl | hl
        · omega
        · rw [hl]; simp
      · rw [if_neg y2]
  refine ⟨hm.1, fun q v hv => leave (Or.inl ?_) v hv, fun q => ⟨fun q2 v hv => leave (Or.inr q2) v hv, fun q2 => ?_⟩⟩
  · rw [hIm, ile, tI (by have := sm.2.1; omega), tI (by have := sm.2.1; omega)] at q
    omega
  · rw [hIm, ile, tI (by have := sm.2.1; omega), tI (by have := sm.2.1; omega)] at q
    have hs : ((nI k - I' m 1) + nI j).toInt = ((k - e + j : Nat) : Int) := by
      rw [hIm, isub_n hek (by omega)]
      exact iadd_n (tI (by omega)) (tI (by omega)) (by omega)
    have hw : aok (cxS K) (o + 1) 1 ((nI k - I' m 1) + nI j) := ⟨13, ho.2.2.2, inOf hs (by omega)⟩
    refine ⟨ho.1, hw, hm.ok (by omega), hw, fun L5 e5 v hv => ?_⟩
    rw [ix_of hs, ixn (by omega), h3 (m + 1) (by omega)] at e5
    refine hD (μ - 1) _ _ _ _ _ _ (by omega) ⟨j + 1, by omega, rfl, rfl, by rw [hv, sI], rfl, fun i => ?_, fun y hy => ?_, rfl⟩
    · by_cases y : i = k - e + j
      · have e1 := h1 i
        rw [if_neg (by omega)] at e1
        have b1 := hB i
        have b2 := rm j
        have b3 : (t.toInt * pl L m j).natAbs ≤ 67108864 * 67108864 := mul_ab (by omega) (by omega)
        have e2 : (t * L (m + 1) j).toInt = t.toInt * pl L m j := by
          rw [jmulB (m := 67108864) (n := 67108864) (by omega) (by rw [pl_lt (by omega)] at b2; omega) (by decide), pl_lt (by omega)]
        rw [if_pos ⟨by omega, by omega⟩, show i - (k - e) = j by omega]
        rw [pl_lt (by omega)] at e1
        rw [pl_lt (by omega), e5, ← y, u2_self, jsub (by rw [e1, e2]; omega) (by rw [e1, e2]; omega), e1, e2]
        omega
      · have e1 : pl L5 o i = pl L' o i := by
          unfold pl
          rw [e5, u2_ne _ _ (fun z => y z.2)]
        rw [e1, h1 i]
        congr 1
        by_cases y2 : k - e ≤ i ∧ i < k - e + j
        · rw [if_pos y2, if_pos ⟨y2.1, by omega⟩]
        · rw [if_neg y2, if_neg (fun z => y2 ⟨z.1, by omega⟩)]
    · rw [e5, u2_off _ _ hy]
      exact h3 y hy
end
