/-! PUTTING PIECES TOGETHER: products of some of them, and divisors with whole coefficients -/
section
def msk (h : Nat → PF) (b : Nat → Bool) : Nat → PF
  | 0 => (letI := pfR; 1)
  | n + 1 => if b n then (letI := pfR; msk h b n * h n) else msk h b n
def num (b : Nat → Bool) : Nat → Nat
  | 0 => 0
  | n + 1 => num b n + if b n then 2 ^ n else 0
theorem num_lt (b : Nat → Bool) : ∀ n, num b n < 2 ^ n
  | 0 => Nat.one_pos
  | n + 1 => by
    have := num_lt b n
    have e : 2 ^ (n + 1) = 2 ^ n + 2 ^ n := by rw [Nat.pow_succ]; omega
    rw [num, e]
    split <;> omega
theorem num_le {b b' : Nat → Bool} : ∀ n, (∀ i, i < n → b i = true → b' i = true) → num b n ≤ num b' n
  | 0, _ => Nat.le_refl _
  | n + 1, h => by
    have ih := num_le n (fun i hi => h i (by omega))
    have hn := h n (by omega)
    rw [num, num]
    by_cases w : b n = true
    · rw [if_pos w, if_pos (hn w)]; omega
    · rw [if_neg w]; omega
theorem num_st {b b' : Nat → Bool} : ∀ n, (∀ i, i < n → b i = true → b' i = true) → (∃ i, i < n ∧ b' i = true ∧ ¬ b i = true) → num b n < num b' n
  | 0, _, ⟨i, hi, _⟩ => absurd hi (Nat.not_lt_zero _)
  | n + 1, h, ⟨i, hi, h1, h2⟩ => by
    have hn := h n (by omega)
    rw [num, num]
    by_cases q : i = n
    · subst q
      have ih := num_le i (fun j hj => h j (by omega))
      have : 0 < 2 ^ i := Nat.pow_pos (by decide)
      rw [if_neg h2, if_pos h1]; omega
    · have ih := num_st n (fun j hj => h j (by omega)) ⟨i, by omega, h1, h2⟩
      by_cases w : b n = true
      · rw [if_pos w, if_pos (hn w)]; omega
      · rw [if_neg w]; omega
theorem num_0 {b : Nat → Bool} : ∀ n, num b n = 0 → ∀ i, i < n → ¬ b i = true
  | 0, _, i, hi => absurd hi (Nat.not_lt_zero _)
  | n + 1, h, i, hi => by
    rw [num] at h
    have : 0 < 2 ^ n := Nat.pow_pos (by decide)
    intro w
    by_cases q : i = n
    · subst q
      rw [if_pos w] at h; omega
    · exact num_0 n (by omega) i (by omega) w
theorem num_inj {b b' : Nat → Bool} : ∀ n, num b n = num b' n → ∀ i, i < n → b i = b' i
  | 0, _, i, hi => absurd hi (Nat.not_lt_zero _)
  | n + 1, h, i, hi => by
    rw [num, num] at h
    have l1 := num_lt b n
    have l2 := num_lt b' n
    have hb : b n = b' n := by
      cases e1 : b n <;> cases e2 : b' n <;> rw [e1, e2] at h <;> simp at h <;> first | rfl | omega
    have hn : num b n = num b' n := by rw [hb] at h; omega
    by_cases q : i = n
    · rw [q]; exact hb
    · exact num_inj n hn i (by omega)
theorem num_bits (M : Nat) : ∀ n, num (fun i => M.testBit i) n = M % 2 ^ n
  | 0 => by rw [Nat.pow_zero, Nat.mod_one]; rfl
  | n + 1 => by
    rw [num, num_bits M n, Nat.mod_pow_succ, Nat.testBit_eq_decide_div_mod_eq]
    congr 1
    rcases Nat.mod_two_eq_zero_or_one (M / 2 ^ n) with q | q <;> rw [q] <;> simp
theorem msk_congr {h : Nat → PF} {b b' : Nat → Bool} : ∀ n, (∀ i, i < n → b i = b' i) → msk h b n = msk h b' n
  | 0, _ => rfl
  | n + 1, e => by rw [msk, msk, msk_congr n (fun i hi => e i (by omega)), e n (by omega)]
theorem msk_mul {h : Nat → PF} {b R : Nat → Bool} : ∀ n, (∀ i, i < n → b i = true → R i = true) → msk h R n = (letI := pfR; msk h b n * msk h (fun i => R i && !b i) n)
  | 0, _ => by
    show (letI := pfR; (1 : PF)) = (letI := pfR; (1 : PF) * 1)
    letI := pfR
    grind
  | n + 1, e => by
    have ih := msk_mul n (fun i hi => e i (by omega)) (h := h)
    have hn := e n (by omega)
    rw [msk, msk, msk, ih]
    letI := pfR
    cases e1 : b n <;> cases e2 : R n
    · simp
    · simp; grind
    · rw [e1, e2] at hn; exact absurd (hn rfl) (by decide)
    · simp; grind
/-- the degree of the product -/
def dsm (d : Nat → Nat) (b : Nat → Bool) : Nat → Nat
  | 0 => 0
  | n + 1 => dsm d b n + if b n then d n else 0
theorem msk_dl {p : Nat} {h : Nat → PF} {d : Nat → Nat} {b : Nat → Bool} : ∀ n, (∀ i, i < n → MI p (d i) (h i)) → dl (msk h b n).1 (dsm d b n + 1) ∧ (msk h b n).1 (dsm d b n) = 1
  | 0, _ => ⟨fun k hk => by
      have hk : 0 + 1 ≤ k := hk
      show pk0 ((1 : Nat) : Int) k = 0
      cases k with
      | zero => omega
      | succ k => rfl, rfl⟩
  | n + 1, hm => by
    obtain ⟨i1, i2⟩ := msk_dl n (fun i hi => hm i (by omega)) (b := b)
    have hn := hm n (by omega)
    rw [msk, dsm]
    by_cases w : b n = true
    · rw [if_pos w, if_pos w]
      refine ⟨pm_dl _ _ _ _ i1 hn.2.1, ?_⟩
      have := pm_top _ _ _ _ i1 hn.2.1
      rw [i2, hn.2.2] at this
      exact this
    · rw [if_neg w, if_neg w]
      exact ⟨i1, i2⟩
theorem msk_md {p n : Nat} (hp : Pr (p : Int)) {h : Nat → PF} {d : Nat → Nat} {b : Nat → Bool} (hm : ∀ i, i < n → MI p (d i) (h i)) : md p (msk h b n).1 (dsm d b n) := by
  obtain ⟨i1, i2⟩ := msk_dl n hm (b := b)
  exact ⟨by rw [i2]; exact hp.n1, fun k hk => by rw [i1 k (by omega)]; exact Int.dvd_zero _⟩
theorem dsm_0 {d : Nat → Nat} {b : Nat → Bool} : ∀ n, (∀ i, i < n → ¬ b i = true) → dsm d b n = 0
  | 0, _ => rfl
  | n + 1, h => by rw [dsm, dsm_0 n (fun i hi => h i (by omega)), if_neg (h n (by omega))]
theorem dsm_congr {d : Nat → Nat} {b b' : Nat → Bool} : ∀ n, (∀ i, i < n → b i = b' i) → dsm d b n = dsm d b' n
  | 0, _ => rfl
  | n + 1, e => by rw [dsm, dsm, dsm_congr n (fun i hi => e i (by omega)), e n (by omega)]
/-- the same up to a unit -/
def ascU (p : Int) (g x : PF) : Prop := ∃ v : Int, ¬ p ∣ v ∧ Zc p (letI := pfR; g - kP v * x)
theorem kP_nz {p : Int} {v : Int} (h : ¬ p ∣ v) : ¬ Zc p (kP v) := fun w => h (w 0)
theorem ascU_md {p : Nat} (hp : Pr (p : Int)) {g x : PF} {n : Nat} (h : ascU p g x) (hx : md p x.1 n) : md p g.1 n := by
  obtain ⟨v, hv, hz⟩ := h
  have hk : md p (pk0 v) 0 := ⟨hv, fun k hk => by cases k with
    | zero => omega
    | succ k => exact Int.dvd_zero _⟩
  have h1 := hk.mul hp hx
  rw [Nat.zero_add] at h1
  refine h1.of_cg (fun k => ?_)
  have h2 : (p : Int) ∣ g.1 k + -1 * pm (pk0 v) x.1 k := hz k
  have := Int.dvd_neg.mpr h2
  rwa [show -(g.1 k + -1 * pm (pk0 v) x.1 k) = pm (pk0 v) x.1 k - g.1 k by omega] at this
theorem zc_k {p : Nat} (hp : Pr (p : Int)) {v : Int} (hv : ¬ (p : Int) ∣ v) : ∃ w : Int, ¬ (p : Int) ∣ w ∧ Zc p (letI := pfR; kP v * kP w - 1) := by
  obtain ⟨w, hw⟩ := inv_ex hp hv
  refine ⟨w, fun z => hp.n1 ?_, fun k => ?_⟩
  · have := Int.dvd_sub (Int.dvd_mul_of_dvd_right (b := v) z) hw
    rwa [show v * w - (v * w - 1) = 1 by omega] at this
  · rw [kP_mul]
    show (p : Int) ∣ pk0 (v * w) k + -1 * pk0 ((1 : Nat) : Int) k
    cases k with
    | zero => 
      show (p : Int) ∣ v * w + -1 * 1
      rw [show v * w + -1 * 1 = v * w - 1 by omega]; exact hw
    | succ k => exact Int.dvd_zero _
/-- a divisor of a product of irreducible ones is the product of some of them -/
theorem msk_fac {p : Nat} (hp : Pr (p : Int)) {h : Nat → PF} {d : Nat → Nat} {b : Nat → Bool} : ∀ (n : Nat) (g q : PF) (u : Int), (∀ i, i < n → MI p (d i) (h i)) → ¬ (p : Int) ∣ u → Zc p (letI := pfR; g * q - kP u * msk h b n) → ∃ b' : Nat → Bool, (∀ i, i < n → b' i = true → b i = true) ∧ ascU p g (msk h b' n)
  | 0, g, q, u, _, hu, hz => by
    refine ⟨fun _ => false, fun i hi => absurd hi (Nat.not_lt_zero _), g.1 0, ?_⟩
    have hm : md p (pm g.1 q.1) 0 := by
      have hk : md p (pk0 u) 0 := ⟨hu, fun k hk => by cases k with
        | zero => omega
        | succ k => exact Int.dvd_zero _⟩
      refine hk.of_cg (fun k => ?_)
      have h1 : (p : Int) ∣ pm g.1 q.1 k + -1 * pm (pk0 u) (pk0 ((1 : Nat) : Int)) k := hz k
      have e : pm (pk0 u) (pk0 ((1 : Nat) : Int)) k = pk0 u k := by rw [pm_c0]; cases k <;> simp [pk0]
      rw [e] at h1
      have := Int.dvd_neg.mpr h1
      rwa [show -(pm g.1 q.1 k + -1 * pk0 u k) = pk0 u k - pm g.1 q.1 k by omega] at this
    have hn := md_mul_r hm
    obtain ⟨dg, hg⟩ := md_of g.2 hn.1
    obtain ⟨dq, hq⟩ := md_of q.2 hn.2
    have := (hg.mul hp hq).uniq hm
    have h0 : dg = 0 := by omega
    subst h0
    refine ⟨hg.1, fun k => ?_⟩
    show (p : Int) ∣ g.1 k + -1 * pm (pk0 (g.1 0)) (pk0 ((1 : Nat) : Int)) k
    have e : pm (pk0 (g.1 0)) (pk0 ((1 : Nat) : Int)) k = pk0 (g.1 0) k := by rw [pm_c0]; cases k <;> simp [pk0]
    rw [e]
    have := md0 hg k
    rwa [show g.1 k - pk0 (g.1 0) k = g.1 k + -1 * pk0 (g.1 0) k by omega] at this
  | n + 1, g, q, u, hm, hu, hz => by
    have hpr := zc_prm hp
    have hi := hpr.1
    have hn := hm n (by omega)
    have hHz : ¬ Zc p (h n) := hn.1.2.1.nal
    rw [msk] at hz
    by_cases w : b n = true
    · rw [if_pos w] at hz
      have hq := prm_p hp hn.1
      have h1 : ZP p (h n).1 (letI := pfR; g * q) := by
        have h2 : ZP p (h n).1 (h n) := dmP.refl _ _
        refine hq.1.of (hq.1.2.1 _ _ (zc_zp hz) (hq.1.2.2 _ (letI := pfR; kP u * msk h b n) h2)) ?_
        letI := pfR
        grind
      have hde : ∀ f : PF, ZP p (h n).1 f → ∃ f1, Zc p (letI := pfR; f - h n * f1) := fun f hf => by
        rw [← jI_zp] at hf
        obtain ⟨f1, h1⟩ := hf
        letI := pfR
        have e : (h n) ^ 1 = h n := by rw [Lean.Grind.Semiring.pow_succ, Lean.Grind.Semiring.pow_zero]; grind
        rw [e] at h1
        exact ⟨f1, h1⟩
      rcases hq.2.1 _ _ h1 with z | z
      · obtain ⟨g1, hg1⟩ := hde g z
        have h3 : Zc p (letI := pfR; h n * (g1 * q - kP u * msk h b n)) := by
          refine hi.of (hi.sub hz (hi.2.2 _ q hg1)) ?_
          letI := pfR
          grind
        obtain ⟨b', hb', v, hv, hz'⟩ := msk_fac hp n g1 q u (fun i hi' => hm i (by omega)) hu ((hpr.2.1 _ _ h3).resolve_left hHz)
        refine ⟨fun i => if i = n then true else b' i, fun i hi' h4 => ?_, v, hv, ?_⟩
        · by_cases e : i = n
          · rw [e]; exact w
          · simp only [if_neg e] at h4
            exact hb' i (by omega) h4
        · rw [msk, if_pos (by simp), msk_congr n (b' := b') (fun i hi' => by simp only [if_neg (show i ≠ n by omega)])]
          refine hi.of (hi.2.1 _ _ hg1 (hi.2.2 _ (h n) hz')) ?_
          letI := pfR
          grind
      · obtain ⟨q1, hq1⟩ := hde q z
        have h3 : Zc p (letI := pfR; h n * (g * q1 - kP u * msk h b n)) := by
          refine hi.of (hi.sub hz (hi.2.2 _ g hq1)) ?_
          letI := pfR
          grind
        obtain ⟨b', hb', v, hv, hz'⟩ := msk_fac hp n g q1 u (fun i hi' => hm i (by omega)) hu ((hpr.2.1 _ _ h3).resolve_left hHz)
        refine ⟨fun i => if i = n then false else b' i, fun i hi' h4 => ?_, v, hv, ?_⟩
        · by_cases e : i = n
          · simp only [if_pos e] at h4; cases h4
          · simp only [if_neg e] at h4
            exact hb' i (by omega) h4
        · rw [msk, if_neg (by simp), msk_congr n (b' := b') (fun i hi' => by simp only [if_neg (show i ≠ n by omega)])]
          exact hz'
    · rw [if_neg w] at hz
      obtain ⟨b', hb', v, hv, hz'⟩ := msk_fac hp n g q u (fun i hi' => hm i (by omega)) hu hz
      refine ⟨fun i => if i = n then false else b' i, fun i hi' h4 => ?_, v, hv, ?_⟩
      · by_cases e : i = n
        · simp only [if_pos e] at h4; cases h4
        · simp only [if_neg e] at h4
          exact hb' i (by omega) h4
      · rw [msk, if_neg (by simp), msk_congr n (b' := b') (fun i hi' => by simp only [if_neg (show i ≠ n by omega)])]
        exact hz'
end
