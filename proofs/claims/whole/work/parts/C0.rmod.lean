/-! THE REFERENCE modulo a prime: its rows, modDegree, modCopy, inverse -/
section
variable {K : Cx} {I : TI} {L : TL} {A : TA}
theorem irem (a b : Int32) (h1 : -2147483648 < a.toInt) : (a - a / b * b).toInt = a.toInt.tmod b.toInt := by
  have h2 : (a / b).toInt = a.toInt.tdiv b.toInt := by
    rw [Int32.toInt_div]
    have := tdiv_le a.toInt b.toInt
    have h3 := Int32.toInt_lt a
    exact Int.bmod_eq_of_le (by omega) (by omega)
  have h5 := Int.tmod_add_mul_tdiv a.toInt b.toInt
  have hab : (a.toInt.tmod b.toInt).natAbs ≤ a.toInt.natAbs := by rw [Int.natAbs_tmod]; exact Nat.mod_le _ _
  have h3 := Int32.toInt_lt a
  have h4 := Int32.le_toInt a
  have hle : (a.toInt.tdiv b.toInt * b.toInt).natAbs ≤ a.toInt.natAbs := by
    rw [Int.natAbs_mul, Int.natAbs_tdiv]
    exact Nat.div_mul_le_self _ _
  have hm : (a / b * b).toInt = a.toInt.tdiv b.toInt * b.toInt := by
    rw [Int32.toInt_mul, h2]; exact Int.bmod_eq_of_le (by omega) (by omega)
  have e : a.toInt - a.toInt.tdiv b.toInt * b.toInt = a.toInt.tmod b.toInt := by rw [Int.mul_comm]; omega
  rw [isub (by rw [hm]; omega) (by rw [hm]; omega), hm, e]
/-- a rest of one that is not below 0 -/
theorem irem_n {a b : Int32} {x p : Nat} (ha : a.toInt = x) (hb : b.toInt = p) (hp : 0 < p) : (a - a / b * b) = nI (x % p) ∧ ¬ b = 0 := by
  have hx : x < 2147483648 := by have := Int32.toInt_lt a; omega
  refine ⟨eqn ?_, fun z => ?_⟩
  · rw [irem a b (by rw [ha]; omega), ha, hb]; rfl
  · rw [z] at hb
    have : (0 : Int32).toInt = 0 := rfl
    omega
theorem imul_n {a b : Int32} {x y : Nat} (ha : a.toInt = x) (hb : b.toInt = y) (h : x * y < 2147483648) : (a * b).toInt = ((x * y : Nat) : Int) := by
  rw [Int32.toInt_mul, ha, hb, ← Int.natCast_mul]
  exact Int.bmod_eq_of_le (by omega) (by omega)
theorem mul_lt {x y p : Nat} (hx : x < p) (hy : y < p) (hp : p ≤ 997) : x * y < 994009 := by
  have h1 : x * y ≤ x * 996 := Nat.mul_le_mul_left _ (by omega)
  omega
/-- row r of the numbers modulo the prime -/
def mp (I : TI) (m r : Nat) : PP := fun k => if k < 16 then (I (m + 8) (16 * r + k)).toInt else 0
theorem mp_lt {m r k : Nat} (h : k < 16) : mp I m r k = (I (m + 8) (16 * r + k)).toInt := if_pos h
theorem mp_dl (I : TI) (m r : Nat) : dl (mp I m r) 16 := fun k hk => if_neg (by omega)
def MU (m : Nat) (S : Nat → Prop) (I I' : TI) : Prop := (∀ y, y ≠ m + 8 → I' y = I y) ∧ ∀ r k, ¬ S r → k < 16 → I' (m + 8) (16 * r + k) = I (m + 8) (16 * r + k)
theorem MU.refl (m : Nat) (S : Nat → Prop) (I : TI) : MU m S I I := ⟨fun _ _ => rfl, fun _ _ _ _ => rfl⟩
theorem MU.trans {m : Nat} {S : Nat → Prop} {I' I'' : TI} (h : MU m S I I') (h' : MU m S I' I'') : MU m S I I'' := ⟨fun y hy => (h'.1 y hy).trans (h.1 y hy), fun r k hr hk => (h'.2 r k hr hk).trans (h.2 r k hr hk)⟩
theorem MU.mono {m : Nat} {S T : Nat → Prop} {I' : TI} (h : MU m S I I') (hs : ∀ r, S r → T r) : MU m T I I' := ⟨h.1, fun r k hr hk => h.2 r k (fun q => hr (hs r q)) hk⟩
theorem MU.same {m r : Nat} {S : Nat → Prop} {I' : TI} (h : MU m S I I') (hr : ¬ S r) : mp I' m r = mp I m r := funext fun k => by
  by_cases y : k < 16
  · rw [mp_lt y, mp_lt y, h.2 r k hr y]
  · rw [mp, mp, if_neg y, if_neg y]
theorem MU.own {m : Nat} {S : Nat → Prop} {I' : TI} (h : MU m S I I') : I' m = I m := h.1 m (by omega)
theorem mu_u2 {m r k : Nat} {v : Int32} (hk : k < 16) : MU m (· = r) I (u2 I (m + 8) (16 * r + k) v) := ⟨fun y hy => u2_off _ _ hy, fun r' k' hr hk' => u2_ne _ _ (fun t => hr (by omega))⟩
theorem li16 : (16 : Int32).toInt = 16 := by decide
theorem mix {r k : Nat} (hr : r < 10) (hk : k < 16) {x y : Int32} (hx : x = nI r) (hy : y.toInt = k) : ((16 : Int32) * x + y).toInt = ((16 * r + k : Nat) : Int) := by
  have h1 : ((16 : Int32) * x).toInt = ((16 * r : Nat) : Int) := by
    rw [Int32.toInt_mul, hx, tI (by omega), li16]
    exact (Int.bmod_eq_of_le (by omega) (by omega)).trans (by omega)
  rw [iadd (by rw [h1, hy]; omega) (by rw [h1, hy]; omega), h1, hy]; omega
theorem mok {m r k : Nat} (hm : isX7 K m) (hr : r < 10) (hk : k < 16) {x : Int32} (hx : x.toInt = ((16 * r + k : Nat) : Int)) : aok (cxS K) (m + 8) 0 x := ⟨160, hm.2.2.2.2.2.2.2.2, inOf hx (by omega)⟩
theorem li15 : (15 : Int32).toInt = 15 := by decide
theorem i0z {a : Int32} : a = 0 ↔ a.toInt = 0 := by rw [← Int32.toInt_inj]; rfl
theorem m_modDegree {m r : Nat} (hm : isX7 K m) (hr : r < 10) : ConI K yX7_modDegree wsX7_modDegree 0 0 I L A [.ref m, .int (nI r)] (fun v I' L' A' => v = tpI (lnP (mp I m r) 16) ∧ I' = I ∧ L' = L ∧ A' = A) := by
  apply w_X7_modDegree
  unfold wp_X7_modDegree wp_X7_modDegree_3
  refine ⟨fun μ I' L' A' x => μ ≤ 16 ∧ x.toInt = (μ : Int) - 1 ∧ lnP (mp I m r) μ = lnP (mp I m r) 16 ∧ I' = I ∧ L' = L ∧ A' = A, 16, ⟨by omega, by decide, rfl, rfl, rfl, rfl⟩, ?_⟩
  rintro μ C hC I' L' A' x ⟨hμ, hx, hl, rfl, rfl, rfl⟩
  refine ⟨fun q => ?_, fun q => ?_⟩
  · rw [ilt, li0] at q
    have : μ = 0 := by omega
    subst this
    refine ⟨iext ?_, rfl, rfl, rfl⟩
    rw [hx, ← hl]
    show _ = (tpI 0).toInt
    decide
  · rw [ilt, li0] at q
    obtain ⟨k, rfl⟩ : ∃ k, μ = k + 1 := ⟨μ - 1, by omega⟩
    have hxk : x.toInt = (k : Int) := by omega
    have hix := mix hr (show k < 16 by omega) rfl hxk
    rw [lnP] at hl
    refine ⟨hm.1, mok hm hr (by omega) hix, fun z v hv => ?_, fun z => ?_⟩
    · rw [ix_of hix, i0z, ← mp_lt (show k < 16 by omega)] at z
      rw [if_pos z] at hl
      refine hC k _ _ _ _ (by omega) ⟨by omega, ?_, hl, rfl, rfl, rfl⟩
      rw [hv, iadd (by rw [hxk, lim1]; omega) (by rw [hxk, lim1]; omega), hxk, lim1]; omega
    · rw [ix_of hix, i0z, ← mp_lt (show k < 16 by omega)] at z
      rw [if_neg z] at hl
      refine ⟨?_, rfl, rfl, rfl⟩
      rw [← hl, tp_s]
      exact eqn hxk
theorem m_modCopy {m r u : Nat} (hm : isX7 K m) (hr : r < 10) (hu : u < 10) : ConV K yX7_modCopy wsX7_modCopy 0 0 I L A [.ref m, .int (nI r), .int (nI u)] (fun I' L' A' => mp I' m r = mp I m u ∧ MU m (· = r) I I' ∧ L' = L ∧ A' = A) := by
  apply w_X7_modCopy
  unfold wp_X7_modCopy wp_X7_modCopy_2
  refine ⟨fun μ I' L' A' x => ∃ i, i + μ = 16 ∧ x = nI i ∧ (∀ k, k < i → mp I' m r k = mp I m u k) ∧ MU m (· = r) I I' ∧ (r = u → mp I' m u = mp I m u) ∧ L' = L ∧ A' = A, 16, ⟨0, rfl, rfl, fun k hk => absurd hk (Nat.not_lt_zero _), MU.refl _ _ _, fun _ => rfl, rfl, rfl⟩, ?_⟩
  rintro μ C hC I' L' A' _ ⟨i, hi, rfl, h1, h2, h3, rfl, rfl⟩
  refine ⟨fun q => ?_, fun q => ?_⟩
  · rw [ile, li16, tI (by omega)] at q
    refine ⟨funext fun k => ?_, h2, rfl, rfl⟩
    by_cases y : k < 16
    · exact h1 k (by omega)
    · rw [mp, mp, if_neg y, if_neg y]
  · rw [ile, li16, tI (by omega)] at q
    have hix := mix hr (show i < 16 by omega) (x := nI r) rfl (tI (k := i) (by omega))
    have hiu := mix hu (show i < 16 by omega) (x := nI u) rfl (tI (k := i) (by omega))
    refine ⟨hm.1, mok hm hu (by omega) hiu, mok hm hr (by omega) hix, fun I4 e4 v hv => ?_⟩
    rw [ix_of hix, ix_of hiu] at e4
    have hv' : (I' (m + 8) (16 * u + i)).toInt = mp I m u i := by
      rw [← mp_lt (by omega)]
      by_cases w : r = u
      · rw [h3 w]
      · rw [h2.same (fun t => w t.symm)]
    refine hC (μ - 1) _ _ _ _ (by omega) ⟨i + 1, by omega, by rw [hv, sI], fun k hk => ?_, h2.trans (by rw [e4]; exact mu_u2 (by omega)), fun w => ?_, rfl, rfl⟩
    · rw [mp_lt (by omega), e4]
      by_cases y : k = i
      · rw [y, u2_self]; exact hv'
      · rw [u2_ne _ _ (fun t => y (by omega)), ← mp_lt (by omega)]
        exact h1 k (by omega)
    · subst w
      rw [← h3 rfl]
      funext k
      by_cases y : k < 16
      · rw [mp_lt y, mp_lt y, e4]
        by_cases y2 : k = i
        · rw [y2, u2_self]
        · rw [u2_ne _ _ (fun t => y2 (by omega))]
      · rw [mp, mp, if_neg y, if_neg y]
/-- the prime that the reference works with -/
def PmR (p : Nat) : Prop := Pr (p : Int) ∧ p ≤ 997
theorem m_inverse {m p v : Nat} {x : Int32} (hm : isX7 K m) (hP : PmR p) (h19 : I m 19 = nI p) (hx : x.toInt = v) (hv0 : 0 < v) (hvp : v < p) : ConI K yX7_inverse wsX7_inverse 0 0 I L A [.ref m, .int x] (fun w I' L' A' => (∃ u : Nat, w = nI u ∧ u < p ∧ (p : Int) ∣ (v : Int) * u - 1) ∧ I' = I ∧ L' = L ∧ A' = A) := by
  have hp1 : 1 < p := by have := hP.1.1; omega
  have hp9 := hP.2
  have l2 : (2 : Int32).toInt = 2 := by decide
  apply w_X7_inverse
  unfold wp_X7_inverse
  refine ⟨hm.1, fun v8 e8 => ?_⟩
  have hv8 : v8 = nI (p - 2) := by
    rw [e8, h19]
    exact eqn (by rw [isub (by rw [tI (by omega), l2]; omega) (by rw [tI (by omega), l2]; omega), tI (by omega), l2]; omega)
  rw [hv8]
  unfold wp_X7_inverse_12
  have hid := idl_int (p : Int)
  refine ⟨fun μ I' L' A' x2 x3 x4 => ∃ w b : Nat, x2 = nI w ∧ x3 = nI b ∧ x4 = nI μ ∧ w < p ∧ b < p ∧ μ ≤ 997 ∧ (p : Int) ∣ (w : Int) * (b : Int) ^ μ - (v : Int) ^ (p - 2) ∧ I' = I ∧ L' = L ∧ A' = A, p - 2, ⟨1, v, rfl, eqn hx, rfl, by omega, hvp, by omega, ⟨0, by simp⟩, rfl, rfl, rfl⟩, ?_⟩
  rintro μ C hC I' L' A' _ _ _ ⟨w, b, rfl, rfl, rfl, hw, hb, hμ, hdv, rfl, rfl, rfl⟩
  refine ⟨fun z => ?_, fun z => ?_⟩
  · rw [ile, li0, tI (by omega)] at z
    have : μ = 0 := by omega
    subst this
    refine ⟨⟨w, rfl, hw, ?_⟩, rfl, rfl, rfl⟩
    rw [Int.pow_zero, Int.mul_one] at hdv
    have h1 := flt hP.1 (v : Int)
    have h2 : (p : Int) ∣ (v : Int) * (v * v ^ (p - 2) - 1) := by
      have e : (v : Int) * (v * v ^ (p - 2) - 1) = (v : Int) ^ p - v := by
        conv => rhs; rw [show p = p - 2 + 1 + 1 by omega, Int.pow_succ, Int.pow_succ]
        generalize (v : Int) ^ (p - 2) = y
        grind
      rw [e]; exact h1
    have hnv : ¬ (p : Int) ∣ (v : Int) := fun t => by
      have := Nat.le_of_dvd hv0 (Int.natCast_dvd_natCast.mp t)
      omega
    rcases hP.1.2 _ _ h2 with t | t
    · exact absurd t hnv
    · obtain ⟨c, hc⟩ := t
      obtain ⟨d, hd⟩ := hdv
      exact ⟨c + v * d, by
        have e1 : (w : Int) = v ^ (p - 2) + p * d := by omega
        rw [e1]
        generalize (v : Int) ^ (p - 2) = y at *
        grind⟩
  · rw [ile, li0, tI (by omega)] at z
    have mm : ∀ {a b : Nat}, a < p → b < p → (nI a * nI b - nI a * nI b / I' m 19 * I' m 19) = nI (a * b % p) ∧ ¬ I' m 19 = 0 := fun {a b} ha hb => by
      have := mul_lt ha hb hp9
      exact irem_n (imul_n (tI (by omega)) (tI (by omega)) (by omega)) (by rw [h19]; exact tI (by omega)) (by omega)
    have dm : ∀ a b : Nat, (p : Int) ∣ (a : Int) * b - ((a * b % p : Nat) : Int) := fun a b => by
      have := Nat.div_add_mod (a * b) p
      exact ⟨((a * b / p : Nat) : Int), by rw [← Int.natCast_mul, ← Int.natCast_mul]; omega⟩
    -- one more squaring
    have sq : ∀ w' : Nat, w' < p → (p : Int) ∣ (w' : Int) * ((b : Int) * b) ^ (μ / 2) - v ^ (p - 2) → wp_X7_inverse_37 K m x C I' L' A' (nI b) (nI μ) (nI w') (fun w I'' L'' A'' => (∃ u : Nat, w = nI u ∧ u < p ∧ (p : Int) ∣ (v : Int) * u - 1) ∧ I'' = I' ∧ L'' = L' ∧ A'' = A') := by
      intro w' hw' hd
      unfold wp_X7_inverse_37
      refine ⟨hm.1, (mm hb hb).2, fun v3 e3 v4 e4 => ?_⟩
      rw [(mm hb hb).1] at e3
      rw [idiv2 (by omega)] at e4
      rw [e3, e4]
      refine hC (μ / 2) _ _ _ _ _ _ (by omega) ⟨w', b * b % p, rfl, rfl, rfl, hw', Nat.mod_lt _ (by omega), by omega, ?_, rfl, rfl, rfl⟩
      have h1 : (p : Int) ∣ ((b : Int) * b) ^ (μ / 2) - ((b * b % p : Nat) : Int) ^ (μ / 2) := hid.pow2 (dm b b) (μ / 2)
      have h2 := Int.dvd_mul_of_dvd_right (b := (w' : Int)) h1
      have := Int.dvd_sub hd h2
      have e : (w' : Int) * ((b : Int) * b) ^ (μ / 2) - v ^ (p - 2) - w' * (((b : Int) * b) ^ (μ / 2) - ((b * b % p : Nat) : Int) ^ (μ / 2)) = w' * ((b * b % p : Nat) : Int) ^ (μ / 2) - v ^ (p - 2) := by
        generalize ((b : Int) * b) ^ (μ / 2) = y
        generalize ((b * b % p : Nat) : Int) ^ (μ / 2) = u
        grind
      rw [e] at this; exact this
    have psq : ∀ h : Nat, (b : Int) ^ (2 * h) = ((b : Int) * b) ^ h := fun h => by
      rw [Int.pow_mul]; congr 1; rw [Int.pow_succ, Int.pow_succ, Int.pow_zero, Int.one_mul]
    have hodd : (nI μ - nI μ / 2 * 2) = 1 ↔ μ % 2 = 1 := by
      rw [← Int32.toInt_inj, irem2 (by omega), show (1 : Int32).toInt = 1 from by decide]; omega
    rw [hodd]
    refine ⟨fun y => ⟨hm.1, (mm hw hb).2, ?_⟩, fun y => ?_⟩
    · rw [(mm hw hb).1]
      refine sq _ (Nat.mod_lt _ (by omega)) ?_
      have h1 := Int.dvd_mul_of_dvd_left (c := ((b : Int) * b) ^ (μ / 2)) (dm w b)
      have e0 : (b : Int) ^ μ = ((b : Int) * b) ^ (μ / 2) * b := by
        conv => lhs; rw [show μ = 2 * (μ / 2) + 1 by omega]
        rw [Int.pow_succ, psq]
      rw [e0] at hdv
      have := Int.dvd_sub hdv h1
      have e : (w : Int) * (((b : Int) * b) ^ (μ / 2) * b) - v ^ (p - 2) - (w * b - ((w * b % p : Nat) : Int)) * ((b : Int) * b) ^ (μ / 2) = ((w * b % p : Nat) : Int) * ((b : Int) * b) ^ (μ / 2) - v ^ (p - 2) := by
        generalize ((b : Int) * b) ^ (μ / 2) = y
        grind
      rw [e] at this; exact this
    · refine sq _ hw ?_
      have e0 : (b : Int) ^ μ = ((b : Int) * b) ^ (μ / 2) := by
        conv => lhs; rw [show μ = 2 * (μ / 2) by omega]
        rw [psq]
      rw [e0] at hdv; exact hdv
end
