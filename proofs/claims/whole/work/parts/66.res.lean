/-! RESIDUES: reduce, lift, inverse -/
section
variable {K : Cx} {I : TI} {L : TL} {A : TA}
abbrev isX3 (K : Cx) (o : Nat) : Prop := cxS K o = shX3 o ∧ isRow K (o + 2) ∧ isRow K (o + 4) ∧ cxS K (o + 1) = .inr (1, 13)
theorem x3_ne {o r : Nat} (h : cxS K o = shX3 o) (hr : isRow K r) : o ≠ r + 1 := fun e => by
  rw [e, hr.2] at h; cases h
theorem x3_nr {o r : Nat} (h : cxS K o = shX3 o) (hr : isRow K r) : o ≠ r := fun e => by
  rw [e, hr.1] at h
  have := congrArg (fun s => match s with | Sum.inl x => x.1 | _ => 9) h
  simp [shX4, shX3] at this
/-- a row and its length: the top is the place of the highest that is not 0 -/
def RowN (I : TI) (L : TL) (r d : Nat) : Prop := St I L r d ∧ ∀ e, d = e + 1 → pl L r e ≠ 0
theorem RowIs.rn {r : Nat} {f : Nat → Int64} (h : RowIs I L r f) : RowN I L r (ln f 13) := ⟨h.st, fun e he => by
  have h1 := ln_le f 13
  rw [pl_lt (by omega), h.1 e (by omega)]
  exact fun z => ln_top f 13 e he (j0.mpr z)⟩
theorem rn_ln {r : Nat} (h : I r 1 = tpI (ln (L (r + 1)) 13)) : RowN I L r (ln (L (r + 1)) 13) := RowIs.rn (f := L (r + 1)) ⟨fun _ _ => rfl, h⟩
theorem RowN.keep {I' : TI} {L' : TL} {r d : Nat} (h : RowN I L r d) (hi : I' r = I r) (hl : L' (r + 1) = L (r + 1)) : RowN I' L' r d := ⟨h.1.keep hi hl, fun e he => by rw [pl_keep hl]; exact h.2 e he⟩
theorem RowN.ch {S : Nat → Prop} {I' : TI} {L' : TL} {r d : Nat} (h : RowN I L r d) (hc : ChR S I I' L L') (hr : ¬ S r) : RowN I' L' r d := h.keep (hc.i hr) (hc.l hr)
theorem RowN.uniq {r d e : Nat} (h : RowN I L r d) (h' : RowN I L r e) : d = e := by
  have h1 := h.1.1.symm.trans h'.1.1
  have h2 := congrArg Int32.toInt h1
  have := h.1.2.1
  have := h'.1.2.1
  rw [tm1 (by omega), tm1 (by omega)] at h2
  omega
theorem RowN.dg {r e : Nat} (h : RowN I L r (e + 1)) : dgI (pl L r) e := ⟨h.2 e rfl, h.1.dl⟩
/-- signs of a xor -/
theorem xor_neg (a b : Int64) : (a ^^^ b) < 0 ↔ ¬ (a < 0 ↔ b < 0) := by
  have e : ∀ x : Int64, x < 0 ↔ x.toBitVec.msb = true := fun x => by
    rw [jlt, show (0 : Int64).toInt = 0 from rfl, ← Int64.toInt_toBitVec, BitVec.toInt_neg_iff, BitVec.msb_eq_decide]
    simp
    omega
  rw [e, e, e, Int64.toBitVec_xor, BitVec.msb_xor]
  cases a.toBitVec.msb <;> cases b.toBitVec.msb <;> decide
/-- Math.floorMod by a number above 0 -/
theorem fm_i {a b : Int64} (hb : 0 < b.toInt) (h1 : -9223372036854775808 < a.toInt) : (fmJ a b).toInt = a.toInt % b.toInt := by
  have hr : (a - a / b * b).toInt = a.toInt.tmod b.toInt := jrem a b h1
  have hbl := Int64.toInt_lt b
  unfold fmJ Jvm.Free.JP.Math_floorMod_JJ.val
  have hbn : ¬ b < 0 := by rw [jlt, show (0 : Int64).toInt = 0 from rfl]; omega
  by_cases ha : a.toInt < 0
  · have han : a < 0 := by rw [jlt]; exact ha
    rw [if_pos ((xor_neg a b).mpr (fun z => hbn (z.mp han)))]
    have e2 := Int.tmod_eq_emod_of_nonneg (a := -a.toInt) (b := b.toInt) (by omega)
    rw [Int.neg_tmod] at e2
    have e3 := Int.emod_nonneg (-a.toInt) (show b.toInt ≠ 0 by omega)
    have e4 := Int.emod_lt_of_pos (-a.toInt) hb
    have e5 := Int.emod_add_mul_ediv a.toInt b.toInt
    have e6 := Int.emod_add_mul_ediv (-a.toInt) b.toInt
    have e7 := Int.emod_nonneg a.toInt (show b.toInt ≠ 0 by omega)
    have e8 := Int.emod_lt_of_pos a.toInt hb
    have hd : b.toInt ∣ a.toInt % b.toInt + (-a.toInt) % b.toInt := ⟨-(a.toInt / b.toInt) - (-a.toInt) / b.toInt, by rw [Int.mul_sub, Int.mul_neg]; omega⟩
    obtain ⟨c, hc⟩ := hd
    by_cases hz : a - a / b * b = 0
    · rw [if_pos hz]
      rw [j0, hr] at hz
      rw [hr, hz]
      have : (-a.toInt) % b.toInt = 0 := by omega
      rw [this] at hc
      have hc2 : b.toInt * c < b.toInt * 1 := by omega
      have hc3 := Int.lt_of_mul_lt_mul_left hc2 (by omega)
      have hc4 : b.toInt * 0 ≤ b.toInt * c := by omega
      have hc5 := Int.le_of_mul_le_mul_left hc4 hb
      have : c = 0 := by omega
      subst this
      omega
    · rw [if_neg hz, jadd (by rw [hr]; omega) (by rw [hr]; omega), hr]
      have hne : (-a.toInt) % b.toInt ≠ 0 := fun z => hz (by rw [j0, hr]; omega)
      have hc2 : b.toInt * c < b.toInt * 2 := by omega
      have hc3 := Int.lt_of_mul_lt_mul_left hc2 (by omega)
      have hc4 : b.toInt * 0 < b.toInt * c := by omega
      have hc5 := Int.lt_of_mul_lt_mul_left hc4 (by omega)
      have : c = 1 := by omega
      subst this
      omega
  · have han : ¬ a < 0 := by rw [jlt]; exact ha
    rw [if_neg (fun z => (xor_neg a b).mp z ⟨fun t => absurd t han, fun t => absurd t hbn⟩), hr]
    exact Int.tmod_eq_emod_of_nonneg (by omega)
/-- the modulus in use -/
def mdl (L : TL) (o : Nat) : Int := (L o 0).toInt
theorem mdl_ch {S : Nat → Prop} {I' : TI} {L' : TL} {o : Nat} (ho : cxS K o = shX3 o) (hS : ∀ r, S r → isRow K r) (hc : ChR S I I' L L') : L' o = L o := hc.2 o (fun r hr => x3_ne ho (hS r hr))
theorem s_useModulus {o : Nat} {x : Int64} (ho : cxS K o = shX3 o) : ConV K yX3_useModulus wsX3_useModulus 0 0 I L A [.ref o, .long x] (fun I' L' A' => I' = I ∧ L' = u2 L o 0 (if x < 2 then 2 else x) ∧ A' = A) := by
  apply w_X3_useModulus
  unfold wp_X3_useModulus
  first
    | exact ⟨fun q => ⟨ho, fun L2 e2 => ⟨rfl, by rw [e2, if_neg (by rw [jlt]; rw [jle] at q; omega)], rfl⟩⟩, fun q => ⟨ho, fun L2 e2 => ⟨rfl, by rw [e2, if_pos (by rw [jlt]; rw [jle] at q; omega)], rfl⟩⟩⟩
    | exact ⟨fun q => ⟨ho, fun L2 e2 => ⟨rfl, by rw [e2, if_pos q], rfl⟩⟩, fun q => ⟨ho, fun L2 e2 => ⟨rfl, by rw [e2, if_neg q], rfl⟩⟩⟩
theorem s_reduce {o r u : Nat} (ho : cxS K o = shX3 o) (h : isRow K r) (hu : isRow K u) (hp : ¬ L o 0 = 0) : ConV K yX3_reduce wsX3_reduce 1 40 I L A [.ref o, .ref r, .ref u] (fun I' L' A' => RowIs I' L' r (fun k => fmJ (L (u + 1) k) (L o 0)) ∧ ChR (· = r) I I' L L' ∧ A' = A) := by
  have ho1 := x3_ne ho h
  apply w_X3_reduce
  unfold wp_X3_reduce wp_X3_reduce_2
  refine ⟨fun μ I' L' A' x => ∃ i, i + μ = 13 ∧ x = nI i ∧ I' = I ∧ (∀ k, k < i → L' (r + 1) k = fmJ (L (u + 1) k) (L o 0)) ∧ (∀ k, i ≤ k → L' (r + 1) k = L (r + 1) k) ∧ (∀ x, x ≠ r + 1 → L' x = L x) ∧ A' = A, 13, ⟨0, rfl, rfl, rfl, fun k hk => absurd hk (Nat.not_lt_zero _), fun _ _ => rfl, fun _ _ => rfl, rfl⟩, ?_⟩
  rintro μ C hC I' L' A' _ ⟨i, hi, rfl, rfl, h1, h2, h3, hA⟩
  refine ⟨fun z => ⟨h.1, _, s_settle h, ?_⟩, fun z => ?_⟩
  · have e := (ge13 (by omega)).mp z
    subst e
    rintro I4 L5 A6 ⟨rfl, rfl, hA6⟩
    refine ⟨⟨fun k hk => h1 k hk, ?_⟩, ⟨fun x hx => u2_off _ _ hx, fun x hx => h3 x (hx r rfl)⟩, hA6.trans hA⟩
    rw [u2_self]
    exact congrArg tpI (ln_congr 13 (fun k hk => by rw [h1 k hk]))
  · have hi13 : i < 13 := by
      rcases Nat.lt_or_ge i 13 with y | y
      · exact y
      · exact absurd ((ge13 (by omega)).mpr (by omega)) z
    have same : ∀ a, L' (a + 1) i = L (a + 1) i := fun a => by
      by_cases y : a + 1 = r + 1
      · rw [y]; exact h2 i (Nat.le_refl i)
      · rw [h3 _ y]
    refine ⟨h.1, hu.1, hu.ok hi13, ho, by rw [h3 o ho1]; exact hp, h.ok hi13, fun L5 e5 v hv => ?_⟩
    rw [ixn (by omega), same, h3 o ho1] at e5
    refine hC (μ - 1) _ _ _ _ (by omega) ⟨i + 1, by omega, by rw [hv, sI], rfl, fun k hk => ?_, fun k hk => ?_, fun x hx => ?_, hA⟩
    · rw [e5]
      by_cases y : k = i
      · rw [y, u2_self]
      · rw [u2_ne _ _ (fun t => y t.2)]
        exact h1 k (by omega)
    · rw [e5, u2_ne _ _ (fun t => by omega)]
      exact h2 k (by omega)
    · rw [e5, u2_off _ _ hx]
      exact h3 x hx
/-- residues -/
def rsd (p : Int) (f : PP) : Prop := ∀ k, 0 ≤ f k ∧ f k < p
/-- reduce, as numbers -/
theorem reduce_i {I' : TI} {L' : TL} {o r u : Nat} (hp : 0 < mdl L o) (hb : ∀ k, -9223372036854775808 < pl L u k) (h : RowIs I' L' r (fun k => fmJ (L (u + 1) k) (L o 0))) : ∀ k, pl L' r k = pl L u k % mdl L o := by
  intro k
  by_cases q : k < 13
  · have := hb k
    rw [pl_lt q] at this
    rw [pl_lt q, h.1 k q, fm_i hp this, pl_lt q]
    rfl
  · rw [pl, if_neg q, pl, if_neg q]; simp
/-- the representative nearest to 0 -/
def near (p x : Int) : Int := if x % p ≤ p / 2 then x % p else x % p - p
theorem s_lift {o r u : Nat} (ho : cxS K o = shX3 o) (h : isRow K r) (hu : isRow K u) (hp : 2 ≤ mdl L o) (hp2 : mdl L o < 67108864) (hb : ∀ k, -9223372036854775808 < pl L u k) : ConV K yX3_lift wsX3_lift 2 63 I L A [.ref o, .ref r, .ref u] (fun I' L' A' => (∀ k, pl L' r k = near (mdl L o) (pl L u k)) ∧ (∃ d, RowN I' L' r d) ∧ ChR (· = r) I I' L L' ∧ A' = A) := by
  have ho1 := x3_ne ho h
  apply w_X3_lift
  unfold wp_X3_lift
  refine ⟨ho, _, s_reduce ho h hu (fun z => by rw [j0] at z; unfold mdl at hp; omega), ?_⟩
  rintro I1 L1 A1 ⟨hr, hc1, hA1⟩
  have hv := reduce_i (by omega) hb hr
  have hst := hr.rn
  have hd13 := hst.1.2.1
  generalize ln (fun k => fmJ (L (u + 1) k) (L o 0)) 13 = d at hst hd13
  have hmo : L1 o = L o := hc1.2 o (fun r' hr' => by rw [hr']; exact ho1)
  unfold wp_X3_lift_8
  refine ⟨fun μ I' L' A' x => ∃ i, i + μ = d ∧ x = nI i ∧ I' = I1 ∧ (∀ k, k < i → pl L' r k = near (mdl L o) (pl L u k)) ∧ (∀ k, i ≤ k → L' (r + 1) k = L1 (r + 1) k) ∧ (∀ x, x ≠ r + 1 → L' x = L1 x) ∧ A' = A, d, ⟨0, by omega, rfl, rfl, fun k hk => absurd hk (Nat.not_lt_zero _), fun _ _ => rfl, fun _ _ => rfl, hA1⟩, ?_⟩
  rintro μ C hC I' L' A' _ ⟨i, hi, rfl, rfl, h1, h2, h3, hA⟩
  have hmo' : L' o 0 = L o 0 := by rw [h3 o ho1, hmo]
  refine ⟨h.1, fun q => ?_, fun q => ?_⟩
  · rw [hst.1.1, tp_lt (by omega) (by omega)] at q
    have : i = d := by omega
    subst this
    have key : ∀ k, pl L' r k = near (mdl L o) (pl L u k) := fun k => by
      by_cases y : k < i
      · exact h1 k y
      · have e1 : pl L' r k = pl L1 r k := by
          by_cases y2 : k < 13
          · rw [pl_lt y2, h2 k (by omega), pl_lt y2]
          · rw [pl, if_neg y2, pl, if_neg y2]
        have e2 := hst.1.dl k (by omega)
        rw [e1, e2]
        rw [hv k] at e2
        unfold near
        rw [e2, if_pos (by omega)]
    refine ⟨key, ⟨i, ⟨hst.1.1, hd13, fun k hk1 hk2 => by rw [h2 k hk1]; exact hst.1.2.2 k hk1 hk2⟩, fun e he => ?_⟩, ⟨fun x hx => hc1.1 x hx, fun x hx => by rw [h3 x (hx r rfl)]; exact hc1.2 x hx⟩, hA⟩
    have e3 := hst.2 e he
    rw [hv e] at e3
    rw [key e]
    unfold near
    have := Int.emod_lt_of_pos (pl L u e) (show 0 < mdl L o by omega)
    split <;> omega
  · rw [hst.1.1, tp_lt (by omega) (by omega)] at q
    have hval : (L' (r + 1) (ix (nI i))).toInt = pl L u i % mdl L o := by rw [ixn (by omega), h2 i (Nat.le_refl i), ← pl_lt (r := r) (by omega), hv i]
    have e0 := Int.emod_nonneg (pl L u i) (show mdl L o ≠ 0 by omega)
    have e1 := Int.emod_lt_of_pos (pl L u i) (show 0 < mdl L o by omega)
    have hhalf : (L' o 0 / 2).toInt = mdl L o / 2 := by
      rw [hmo', jdiv (by unfold mdl at hp; omega)]
      show (mdl L o).tdiv 2 = _
      exact Int.tdiv_eq_ediv_of_nonneg (by omega)
    have step : ∀ L7 : TL, (∀ k, k ≠ i → L7 (r + 1) k = L' (r + 1) k) → (∀ x, x ≠ r + 1 → L7 x = L' x) → pl L7 r i = near (mdl L o) (pl L u i) → ∀ v : Int32, v = nI i + 1 → C I' L7 A' v := by
      intro L7 g1 g2 g3 v hv'
      refine hC (μ - 1) _ _ _ _ (by omega) ⟨i + 1, by omega, by rw [hv', sI], rfl, fun k hk => ?_, fun k hk => ?_, fun x hx => ?_, hA⟩
      · by_cases y : k = i
        · rw [y]; exact g3
        · rw [pl_lt (by omega), g1 k y, ← pl_lt (r := r) (by omega)]
          exact h1 k (by omega)
      · rw [g1 k (by omega)]; exact h2 k (by omega)
      · rw [g2 x hx]; exact h3 x hx
    refine ⟨h.ok (by omega), ho, fun z v hv' => ?_, fun z => ⟨h.ok (by omega), h.ok (by omega), fun L7 e7 v hv' => ?_⟩⟩
    · rw [jle, hval, hhalf] at z
      refine step L' (fun _ _ => rfl) (fun _ _ => rfl) ?_ v hv'
      rw [pl_lt (by omega)]
      rw [ixn (by omega)] at hval
      unfold near
      rw [if_pos z, hval]
    · rw [jle, hval, hhalf] at z
      refine step L7 (fun k hk => by rw [e7, ixn (by omega), u2_ne _ _ (fun t => hk t.2)]) (fun x hx => by rw [e7, u2_off _ _ hx]) ?_ v hv'
      have hm : (L' o 0).toInt = mdl L o := by rw [hmo']; rfl
      rw [pl_lt (by omega), e7, ixn (by omega), u2_self]
      rw [ixn (by omega)] at hval
      unfold near
      rw [if_neg z, jsub (by rw [hval, hm]; omega) (by rw [hval, hm]; omega), hval, hm]
end
