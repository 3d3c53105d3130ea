/-! THE REFERENCE: whole roots of a cubic -/
section
variable {K : Cx} {I : TI} {L : TL} {A : TA}
theorem jshr (s : Int64) : (s >>> (Int32.toInt64 1 &&& 63)).toInt = s.toInt / 2 := by
  have e : (Int32.toInt64 1 &&& 63).toBitVec.smod 64 = BitVec.ofNat 64 1 := by decide
  show (s >>> (Int32.toInt64 1 &&& 63)).toBitVec.toInt = _
  rw [Int64.toBitVec_shiftRight, e, BitVec.sshiftRight_eq', BitVec.toInt_sshiftRight, Int.shiftRight_eq_div_pow]
  rfl
/-- the cubic that is looked at -/
def CbF (m : Nat) (L : TL) (B C D : Int) : Prop := (L m 20).toInt = B ∧ (L m 21).toInt = C ∧ (L m 22).toInt = D ∧ B.natAbs ≤ 90000 ∧ C.natAbs ≤ 40500000000 ∧ D.natAbs ≤ 4374000000000000
def FrG (m : Nat) (I I' : TI) (L L' : TL) : Prop := (∀ y, y ≠ m → I' y = I y ∧ L' y = L y) ∧ (∀ k, k ≠ 23 → I' m k = I m k) ∧ ∀ k, k ≠ 24 → L' m k = L m k
theorem FrG.refl (m : Nat) (I : TI) (L : TL) : FrG m I I L L := ⟨fun _ _ => ⟨rfl, rfl⟩, fun _ _ => rfl, fun _ _ => rfl⟩
theorem FrG.trans {m : Nat} {I' I'' : TI} {L' L'' : TL} (h : FrG m I I' L L') (h' : FrG m I' I'' L' L'') : FrG m I I'' L L'' := ⟨fun y hy => ⟨(h'.1 y hy).1.trans (h.1 y hy).1, (h'.1 y hy).2.trans (h.1 y hy).2⟩, fun k hk => (h'.2.1 k hk).trans (h.2.1 k hk), fun k hk => (h'.2.2 k hk).trans (h.2.2 k hk)⟩
theorem CbF.fr {m : Nat} {B C D : Int} {I' : TI} {L' : TL} (h : CbF m L B C D) (hf : FrG m I I' L L') : CbF m L' B C D := ⟨by rw [hf.2.2 20 (by omega)]; exact h.1, by rw [hf.2.2 21 (by omega)]; exact h.2.1, by rw [hf.2.2 22 (by omega)]; exact h.2.2.1, h.2.2.2⟩
theorem m_cubeAt {m : Nat} {z : Int64} {B C D : Int} (hm : isX7 K m) (hc : CbF m L B C D) (hz : z.toInt.natAbs ≤ 600000) : ConL K yX7_cubeAt wsX7_cubeAt 0 0 I L A [.ref m, .long z] (fun v I' L' A' => v.toInt = cb B C D z.toInt ∧ I' = I ∧ L' = L ∧ A' = A) := by
  obtain ⟨h1, h2, h3, b1, b2, b3⟩ := hc
  apply w_X7_cubeAt
  unfold wp_X7_cubeAt
  refine ⟨hm.1, ?_, rfl, rfl, rfl⟩
  have hj : jc (((((z + (L m 20)) * z) + (L m 21)) * z) + (L m 22)) (cb B C D z.toInt) := by
    unfold cb
    exact ((((((jc_of rfl : jc z z.toInt).add (jc_of h1)).mul (jc_of rfl)).add (jc_of h2)).mul (jc_of rfl)).add (jc_of h3))
  have c1 : (z.toInt + B).natAbs ≤ 690000 := by omega
  have c2 := mul_ab c1 hz
  have c3 : ((z.toInt + B) * z.toInt + C).natAbs ≤ 454500000000 := by omega
  have c4 := mul_ab c3 hz
  have c5 : (cb B C D z.toInt).natAbs ≤ 454500000000 * 600000 + 4374000000000000 := by unfold cb; omega
  exact hj.eq (by omega) (by omega)
/-- the roots found below w -/
def RtS (B C D : Int) (m : Nat) (I : TI) (L : TL) (n : Nat) (w : Int) : Prop := ∃ k : Nat, I m 23 = nI k ∧ k ≤ n ∧ ((k = 0 ∧ ∀ z, -600000 ≤ z → z < w → cb B C D z ≠ 0) ∨ (1 ≤ k ∧ cb B C D (L m 24).toInt = 0 ∧ (L m 24).toInt < w ∧ ((k = 1 ∧ ∀ z, -600000 ≤ z → z < w → cb B C D z = 0 → z = (L m 24).toInt) ∨ (2 ≤ k ∧ ∃ y z, y ≠ z ∧ cb B C D y = 0 ∧ cb B C D z = 0))))
theorem RtS.none {B C D : Int} {m n : Nat} {w w' : Int} (h : RtS B C D m I L n w) (hw : w ≤ w') (hno : ∀ z, w ≤ z → z < w' → cb B C D z ≠ 0) : RtS B C D m I L (n + 1) w' := by
  obtain ⟨k, h1, h2, h3⟩ := h
  refine ⟨k, h1, by omega, ?_⟩
  rcases h3 with ⟨q, q2⟩ | ⟨q, q2, q3, q4⟩
  · refine Or.inl ⟨q, fun z hz1 hz2 => ?_⟩
    rcases Int.lt_or_le z w with t | t
    · exact q2 z hz1 t
    · exact hno z t hz2
  · refine Or.inr ⟨q, q2, by omega, ?_⟩
    rcases q4 with ⟨r, r2⟩ | r
    · refine Or.inl ⟨r, fun z hz1 hz2 hz3 => ?_⟩
      rcases Int.lt_or_le z w with t | t
      · exact r2 z hz1 t hz3
      · exact absurd hz3 (hno z t hz2)
    · exact Or.inr r
theorem RtS.one {B C D : Int} {m n : Nat} {w w' r : Int} {I' : TI} {L' : TL} (h : RtS B C D m I L n w) (hn : n < 1000) (hr1 : w ≤ r) (hr2 : r < w') (hr : cb B C D r = 0) (hu : ∀ z, w ≤ z → z < w' → cb B C D z = 0 → z = r) (h23 : I' m 23 = I m 23 + 1) (h24 : (L' m 24).toInt = r) : RtS B C D m I' L' (n + 1) w' := by
  obtain ⟨k, h1, h2, h3⟩ := h
  refine ⟨k + 1, by rw [h23, h1, sI], by omega, Or.inr ⟨by omega, by rw [h24]; exact hr, by rw [h24]; exact hr2, ?_⟩⟩
  rcases h3 with ⟨q, q2⟩ | ⟨q, q2, q3, q4⟩
  · refine Or.inl ⟨by omega, fun z hz1 hz2 hz3 => ?_⟩
    rw [h24]
    rcases Int.lt_or_le z w with t | t
    · exact absurd hz3 (q2 z hz1 t)
    · exact hu z t hz2 hz3
  · exact Or.inr ⟨by omega, (L m 24).toInt, r, by omega, q2, hr⟩
set_option maxHeartbeats 1000000 in
theorem m_look {m n : Nat} {a b : Int64} {x : Int32} {B C D σ : Int} (hm : isX7 K m) (hc : CbF m L B C D) (hn : n < 1000) (ha : -600000 ≤ a.toInt) (hb : b.toInt ≤ 600000) (hR : RtS B C D m I L n a.toInt) (hx : (σ = 1 ∧ x = 1) ∨ (σ = -1 ∧ x = 0)) (hmono : ∀ u v, a.toInt ≤ u → u < v → v ≤ b.toInt → σ * cb B C D u < σ * cb B C D v) : ConV K yX7_look wsX7_look 1 22 I L A [.ref m, .long a, .long b, .int x] (fun I' L' A' => RtS B C D m I' L' (n + 1) (if a.toInt ≤ b.toInt then b.toInt + 1 else a.toInt) ∧ FrG m I I' L L' ∧ A' = A) := by
  apply w_X7_look
  unfold wp_X7_look
  refine ⟨fun z => ?_, fun z => ?_⟩
  rotate_left
  · rw [jle] at z
    rw [if_neg z]
    exact ⟨hR.none (Int.le_refl _) (fun z h1 h2 => by omega), FrG.refl _ _ _, rfl⟩
  rw [jle] at z
  rw [if_pos z]
  unfold wp_X7_look_13
  refine ⟨fun μ I' L' A' x6 x8 => x6.toInt + μ = x8.toInt ∧ a.toInt ≤ x6.toInt ∧ x8.toInt ≤ b.toInt ∧ (∀ z, a.toInt ≤ z → z < x6.toInt → σ * cb B C D z < 0) ∧ (x8.toInt = b.toInt ∨ 0 ≤ σ * cb B C D x8.toInt) ∧ I' = I ∧ L' = L ∧ A' = A, (b.toInt - a.toInt).toNat, ⟨by omega, Int.le_refl _, Int.le_refl _, fun z h1 h2 => by omega, Or.inl rfl, rfl, rfl, rfl⟩, ?_⟩
  rintro μ Cc hC I1 L1 A1 x6 x8 ⟨hμ, h6, h8, hlo, hhi, rfl, rfl, rfl⟩
  have hσ : ∀ y : Int, σ * y = 0 ↔ y = 0 := fun y => by
    rcases hx with ⟨rfl, -⟩ | ⟨rfl, -⟩ <;> omega
  refine ⟨fun w => ⟨hm.1, _, m_cubeAt hm hc (by omega), ?_⟩, fun w => ?_⟩
  · -- the place
    rw [jle] at w
    have hμ0 : x6.toInt = x8.toInt := by omega
    rintro r I2 L2 A2 ⟨hr, rfl, rfl, rfl⟩
    have huniq : cb B C D x6.toInt = 0 → ∀ z, a.toInt ≤ z → z < b.toInt + 1 → cb B C D z = 0 → z = x6.toInt := fun h0 z h1 h2 h3 => by
      rcases Int.lt_trichotomy z x6.toInt with t | t | t
      · have := hlo z h1 t
        rw [h3] at this
        omega
      · exact t
      · have := hmono x6.toInt z h6 t (by omega)
        rw [h0, h3] at this
        omega
    refine ⟨fun w2 => ?_, fun w2 => ?_⟩
    · rw [j0, hr] at w2
      have new : ∀ I3 : TI, I3 = u2 I2 m 23 (I2 m 23 + 1) → ∀ L3 : TL, L3 = u2 L2 m 24 x6 → RtS B C D m I3 L3 (n + 1) (b.toInt + 1) ∧ FrG m I2 I3 L2 L3 ∧ A2 = A2 := fun I3 e3 L3 e4 => by
        refine ⟨hR.one hn h6 (by omega) w2 (fun z h1 h2 h3 => huniq w2 z h1 h2 h3) (by rw [e3, u2_self]) (by rw [e4, u2_self]), ⟨fun y hy => ⟨by rw [e3, u2_off _ _ hy], by rw [e4, u2_off _ _ hy]⟩, fun k hk => by rw [e3, u2_ne _ _ (fun t => hk t.2)], fun k hk => by rw [e4, u2_ne _ _ (fun t => hk t.2)]⟩, rfl⟩
      refine ⟨fun w3 => ?_, fun w3 => ⟨fun w4 => ?_, fun w4 => ?_⟩⟩
      · unfold wp_X7_look_104
        exact ⟨hm.1, fun I3 e3 L3 e4 => new I3 e3 L3 e4⟩
      · -- it was found before: it lies below
        exfalso
        obtain ⟨k, k1, k2, k3⟩ := hR
        rcases k3 with ⟨q, -⟩ | ⟨-, -, q3, -⟩
        · exact w3 (by rw [k1, q]; rfl)
        · rw [w4] at q3; omega
      · unfold wp_X7_look_104
        exact ⟨hm.1, fun I3 e3 L3 e4 => new I3 e3 L3 e4⟩
    · rw [j0, hr] at w2
      refine ⟨hR.none (by omega) (fun z h1 h2 h3 => ?_), FrG.refl _ _ _, rfl⟩
      rcases Int.lt_trichotomy z x6.toInt with t | t | t
      · have := hlo z h1 t
        rw [h3] at this; omega
      · rw [t] at h3; exact w2 h3
      · rcases hhi with q | q
        · omega
        · have := hmono x6.toInt z h6 t (by omega)
          rw [h3] at this
          rw [← hμ0] at q
          omega
  · rw [jle] at w
    intro v11 e11
    have hs : (x6 + x8).toInt = x6.toInt + x8.toInt := jadd (by omega) (by omega)
    have hv : v11.toInt = (x6.toInt + x8.toInt) / 2 := by rw [e11, jshr, hs]
    have hv1 : x6.toInt ≤ v11.toInt ∧ v11.toInt < x8.toInt := by omega
    refine ⟨hm.1, _, m_cubeAt hm hc (by omega), ?_⟩
    rintro r I2 L2 A2 ⟨hr, rfl, rfl, rfl⟩
    have l1 : (1 : Int64).toInt = 1 := rfl
    have up : σ * cb B C D v11.toInt < 0 → ∀ v : Int64, v = v11 + 1 → Cc I2 L2 A2 v x8 := fun hneg v ev => by
      have hvv : v.toInt = v11.toInt + 1 := by rw [ev, jadd (by rw [l1]; omega) (by rw [l1]; omega), l1]
      refine hC (x8.toInt - v.toInt).toNat _ _ _ _ _ (by omega) ⟨by omega, by omega, h8, fun z h1 h2 => ?_, hhi, rfl, rfl, rfl⟩
      rcases Int.lt_or_le z v11.toInt with t | t
      · have := hmono z v11.toInt h1 t (by omega)
        omega
      · rw [show z = v11.toInt by omega]; exact hneg
    have dn : 0 ≤ σ * cb B C D v11.toInt → Cc I2 L2 A2 x6 v11 := fun hpos => hC (v11.toInt - x6.toInt).toNat _ _ _ _ _ (by omega) ⟨by omega, h6, by omega, hlo, Or.inr hpos, rfl, rfl, rfl⟩
    have l0 : (0 : Int64).toInt = 0 := rfl
    refine ⟨fun q => ⟨fun w2 => up ?_, fun w2 => dn ?_⟩, fun q => ⟨fun w2 => up ?_, fun w2 => dn ?_⟩⟩
    · rcases hx with ⟨-, hx⟩ | ⟨rfl, -⟩
      · rw [hx] at q; exact absurd q (by decide)
      · rw [jlt, l0, hr] at w2; omega
    · rcases hx with ⟨-, hx⟩ | ⟨rfl, -⟩
      · rw [hx] at q; exact absurd q (by decide)
      · rw [jlt, l0, hr] at w2; omega
    · rcases hx with ⟨rfl, -⟩ | ⟨-, hx⟩
      · rw [jlt, l0, hr] at w2; omega
      · rw [hx] at q; exact absurd rfl q
    · rcases hx with ⟨rfl, -⟩ | ⟨-, hx⟩
      · rw [jlt, l0, hr] at w2; omega
      · rw [hx] at q; exact absurd rfl q
theorem m_below {a : Int64} (ha : a.toInt.natAbs < 4611686018427387904) : ConL K yX7_below wsX7_below 0 0 I L A [.long a, .long 3] (fun v I' L' A' => (3 * v.toInt ≤ a.toInt ∧ a.toInt < 3 * v.toInt + 3) ∧ I' = I ∧ L' = L ∧ A' = A) := by
  have l3 : (3 : Int64).toInt = 3 := rfl
  have l1 : (1 : Int64).toInt = 1 := rfl
  apply w_X7_below
  unfold wp_X7_below
  refine ⟨by decide, fun v e => ?_⟩
  have hv : v.toInt = a.toInt.tdiv 3 := by rw [e, jdiv (by omega), l3]
  have h1 := Int.mul_tdiv_add_tmod a.toInt 3
  have h2 : (a.toInt.tmod 3).natAbs < 3 := by rw [Int.natAbs_tmod]; exact Nat.mod_lt _ (by decide)
  have hs : (0 ≤ a.toInt → 0 ≤ a.toInt.tmod 3) ∧ (a.toInt ≤ 0 → a.toInt.tmod 3 ≤ 0) := by
    refine ⟨fun h => Int.tmod_nonneg _ h, fun h => ?_⟩
    have := Int.tmod_nonneg 3 (show 0 ≤ -a.toInt by omega)
    rw [Int.neg_tmod] at this
    omega
  have hm : (v * 3).toInt = v.toInt * 3 := by
    have := tdiv_le a.toInt 3
    rw [jmul (by rw [l3, hv]; omega) (by rw [l3, hv]; omega), l3]
  refine ⟨fun w => ⟨?_, rfl, rfl, rfl⟩, fun w => ⟨?_, rfl, rfl, rfl⟩⟩
  · rw [jle, hm] at w
    rw [hv] at w ⊢; omega
  · rw [jle, hm] at w
    have h3 : (v - 1).toInt = v.toInt - 1 := by
      have := tdiv_le a.toInt 3
      rw [jsub (by rw [l1, hv]; omega) (by rw [l1, hv]; omega), l1]
    rw [h3]
    rw [hv] at w ⊢; omega
end
