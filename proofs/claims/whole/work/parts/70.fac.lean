/-! FACTORING: divides, findCommon -/
section
variable {K : Cx} {I : TI} {L : TL} {A : TA}
abbrev isX0 (K : Cx) (f : Nat) : Prop := cxS K f = shX0 f ∧ isX3 K (f + 2) ∧ isRow K (f + 55) ∧ isRow K (f + 57) ∧ isRow K (f + 59) ∧ isRow K (f + 61) ∧ isRow K (f + 63) ∧ isRow K (f + 65) ∧ isRow K (f + 67)
/-- only the rows of S and the modulus at o are written -/
def ChM (S : Nat → Prop) (o : Nat) (I I' : TI) (L L' : TL) : Prop := (∀ x, ¬ S x → I' x = I x) ∧ ∀ x, x ≠ o → (∀ r, S r → x ≠ r + 1) → L' x = L x
theorem ChR.m {S : Nat → Prop} {I' : TI} {L' : TL} (h : ChR S I I' L L') (o : Nat) : ChM S o I I' L L' := ⟨h.1, fun x _ hx => h.2 x hx⟩
theorem ChM.refl (S : Nat → Prop) (o : Nat) (I : TI) (L : TL) : ChM S o I I L L := ⟨fun _ _ => rfl, fun _ _ _ => rfl⟩
theorem ChM.trans {S : Nat → Prop} {o : Nat} {I' I'' : TI} {L' L'' : TL} (h : ChM S o I I' L L') (h' : ChM S o I' I'' L' L'') : ChM S o I I'' L L'' :=
  ⟨fun x hx => (h'.1 x hx).trans (h.1 x hx), fun x ho hx => (h'.2 x ho hx).trans (h.2 x ho hx)⟩
theorem ChM.mono {S T : Nat → Prop} {o : Nat} {I' : TI} {L' : TL} (h : ChM S o I I' L L') (hs : ∀ x, S x → T x) : ChM T o I I' L L' :=
  ⟨fun x hx => h.1 x (fun q => hx (hs x q)), fun x ho hx => h.2 x ho (fun r q => hx r (hs r q))⟩
theorem ChM.i {S : Nat → Prop} {o : Nat} {I' : TI} {L' : TL} (h : ChM S o I I' L L') {u : Nat} (hu : ¬ S u) : I' u = I u := h.1 u hu
theorem ChM.l {S : Nat → Prop} {o : Nat} {I' : TI} {L' : TL} (h : ChM S o I I' L L') (ho : cxS K o = shX3 o) {u : Nat} (hr : isRow K u) (hu : ¬ S u) : L' (u + 1) = L (u + 1) := h.2 _ (Ne.symm (x3_ne ho hr)) (fun r q e => hu ((show u = r by omega) ▸ q))
theorem RowN.chm {S : Nat → Prop} {o : Nat} {I' : TI} {L' : TL} {r d : Nat} (h : RowN I L r d) (hc : ChM S o I I' L L') (ho : cxS K o = shX3 o) (hr : isRow K r) (hu : ¬ S r) : RowN I' L' r d := h.keep (hc.i hu) (hc.l ho hr hu)
theorem s_divides {f u a e da MA : Nat} (hf : isX0 K f) (hu : isRow K u) (ha : isRow K a) (h1 : u ≠ f + 65) (h2 : u ≠ f + 67) (h3 : a ≠ f + 65) (h4 : a ≠ f + 67) (nu : RowN I L u (e + 1)) (sa : St I L a da) (hMA : ∀ k, (pl L a k).natAbs ≤ MA) (hA1 : MA ≤ 1000000000000000) :
    ConI K yX0_divides wsX0_divides 3 92 I L A [.ref f, .ref u, .ref a] (fun v I' L' A' => ((v = 1 ∧ quo (pl L a) (pl L u) (pl L' (f + 65))) ∨ (v = 0 ∧ ¬ ((∀ k, (pl L u k).natAbs ≤ 1000000) ∧ ∃ x, quo (pl L a) (pl L u) x))) ∧ ChR (fun x => x = f + 65 ∨ x = f + 67) I I' L L' ∧ A' = A) := by
  have hd := nu.1.2.1
  apply w_X0_divides
  unfold wp_X0_divides
  refine ⟨hu.1, _, s_isWithin hu nu.1.1 hd (by decide), ?_⟩
  rintro v I1 L1 A1 ⟨hv, rfl, rfl, hA1'⟩
  rw [li1e6] at hv
  have hall : (∀ k, k < e + 1 → -1000000 ≤ (L1 (u + 1) k).toInt ∧ (L1 (u + 1) k).toInt ≤ 1000000) ↔ ∀ k, (pl L1 u k).natAbs ≤ 1000000 := by
    refine ⟨fun h k => ?_, fun h k hk => ?_⟩
    · by_cases q : k < e + 1
      · have := h k q
        rw [pl_lt (by omega)]; omega
      · rw [nu.1.dl k (by omega)]; simp
    · have := h k
      rw [pl_lt (by omega)] at this; omega
  rcases hv with ⟨rfl, hv⟩ | ⟨rfl, hv⟩
  · refine ⟨fun z => absurd z (by decide), fun _ => ⟨hf.1, hf.2.2.2.2.2.2.2.1.1, _, s_becomeQuotient (MB := 1000000) hf.2.2.2.2.2.2.2.1 ha hu hf.2.2.2.2.2.2.2.2 (Ne.symm h3) (Ne.symm h1) (by omega) (Ne.symm h4) (Ne.symm h2) sa nu.1 (nu.2 e rfl) hMA (hall.mp hv) hA1 (by omega), ?_⟩⟩
    rintro w I2 L2 A2 ⟨hw, -, -, hc, hA2⟩
    have hAA : A2 = A := by rw [hA2, hA1']
    rcases hw with ⟨rfl, hq, -⟩ | ⟨rfl, hq⟩
    · exact ⟨fun z => absurd z (by decide), fun _ => ⟨Or.inl ⟨rfl, hq⟩, hc, hAA⟩⟩
    · exact ⟨fun _ => ⟨Or.inr ⟨rfl, fun t => t.2.elim (fun x hx => hq x hx)⟩, hc, hAA⟩, fun z => absurd rfl z⟩
  · refine ⟨fun _ => ⟨Or.inr ⟨rfl, fun t => ?_⟩, ChR.refl _ _ _, hA1'⟩, fun z => absurd rfl z⟩
    obtain ⟨k, hk1, hk2⟩ := hv
    exact hk2 (hall.mpr t.1 k hk1)
/-- the nearest representative of a small number -/
theorem near_small {p x y : Int} (hp : 0 < p) (h : p ∣ x - y) (h1 : -p < 2 * y) (h2 : 2 * y < p) : near p x = y := by
  obtain ⟨c, hc⟩ := h
  unfold near
  have e0 : x % p = y % p := by
    rw [show x = y + p * c by omega, Int.add_mul_emod_self_left]
  rw [e0]
  rcases Int.lt_or_le y 0 with q | q
  · have e1 : y % p = y + p := by
      have : y % p = (y + p) % p := by rw [Int.add_emod_right]
      rw [this]; exact Int.emod_eq_of_lt (by omega) (by omega)
    rw [e1, if_neg (by omega)]; omega
  · have e1 : y % p = y := Int.emod_eq_of_lt q (by omega)
    rw [e1, if_pos (by omega)]
theorem gd_prim {g : PP} {n : Nat} (hg : prim g) (hd : dl g n) (h0 : g ≠ p0) : gd g n = 1 := by
  have hz : gd g n ≠ 0 := fun z => h0 (funext fun k => by
    by_cases q : k < n
    · have := gd_dvd g n k q
      rw [z] at this
      exact Int.zero_dvd.mp this
    · exact hd k (by omega))
  rcases Nat.lt_or_ge 1 (gd g n) with q | q
  · obtain ⟨l, hl, hp⟩ := pr_ex _ q
    refine absurd (fun k => ?_) (hg l hp)
    by_cases w : k < n
    · exact Int.dvd_trans (Int.natCast_dvd_natCast.mpr hl) (gd_dvd g n k w)
    · rw [hd k (by omega)]; exact Int.dvd_zero _
  · omega
theorem gd_c (c : Int) (g : PP) : ∀ n, gd (pc c g) n = c.natAbs * gd g n
  | 0 => rfl
  | n + 1 => by
    rw [gd, gd_c c g n, gd]
    simp only [pc]
    rw [Int.natAbs_mul, Nat.gcd_mul_left]
/-- the primitive part of a multiple of a primitive one -/
theorem prim_of {f h g : PP} {c : Int} {d : Nat} (hc : 0 < c) (hg : prim g) (hgd : dgI g d) (hpos : 0 < g d) (e : f = pc c g) (hh : ∀ k, f k = (if sgd f (d + 1) = 0 then 1 else sgd f (d + 1)) * h k) : h = g := by
  have h1 : sgd f (d + 1) = c := by
    have h2 : f d = c * g d := by rw [e]; rfl
    have h3 : 0 < c * g d := Int.mul_pos hc hpos
    unfold sgd
    rw [Nat.add_sub_cancel, if_neg (fun t => by omega), e, gd_c, gd_prim hg hgd.2 hgd.ne, Nat.mul_one]
    omega
  rw [h1, if_neg (by omega)] at hh
  funext k
  have := hh k
  rw [e] at this
  exact (Int.eq_of_mul_eq_mul_left (by omega) this).symm
theorem lead_dvd {g a : PP} {d m : Nat} (h : dv g a) (hg : dgI g d) (ha : dgI a m) : g d ∣ a m := by
  obtain ⟨q, hq, rfl⟩ := h
  have hq0 : q ≠ p0 := fun z => ha.ne (by rw [z]; funext k; rw [pm_comm, pm_0l])
  obtain ⟨n, hn⟩ := hq.dg hq0
  have := (hg.mul hn).uniq ha
  rw [← this, pm_top d g q n hg.2 hn.2]
  exact ⟨q n, rfl⟩
/-- a greatest common divisor there is -/
theorem gcd_ex {x y : PP} (hx : Pf x) (hy : Pf y) (h0 : x ≠ p0 ∨ y ≠ p0) : ∃ g, Gcd g x y := by
  obtain ⟨b, u, v, e, d, hbp, hbd, he, hu, hv, hbx, hby, heq⟩ := bezout hx hy h0
  have hmax : ∀ h n, dv h x → dv h y → dgI h n → n ≤ d := fun h n h1 h2 hn => by
    have h3 : dv h (pc e b) := by rw [heq]; exact (h1.mul_r hu).add (h2.mul_r hv)
    exact h3.le hn ⟨Int.mul_ne_zero he hbd.1, fun j hj => by simp only [pc]; rw [hbd.2 j hj]; simp⟩
  rcases Int.lt_or_le 0 (b d) with q | q
  · exact ⟨b, hbp, hbx, hby, d, hbd, q, hmax⟩
  · have hneg : ∀ z, dv b z → dv (pc (-1) b) z := fun z ⟨s, hs, es⟩ => ⟨pc (-1) s, hs.c _, by funext k; rw [pm_c_l, pm_c_r, es]; omega⟩
    have hnd : dgI (pc (-1) b) d := ⟨by have := hbd.1; simp only [pc]; omega, fun j hj => by simp only [pc]; rw [hbd.2 j hj]; rfl⟩
    refine ⟨pc (-1) b, fun l hl ha => hbp l hl (fun k => ?_), hneg x hbx, hneg y hby, d, hnd, by have := hbd.1; simp only [pc]; omega, hmax⟩
    have := ha k
    simp only [pc] at this
    rw [show -1 * b k = -(b k) by omega] at this
    exact Int.dvd_neg.mp this
end
