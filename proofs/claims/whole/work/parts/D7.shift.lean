/-! A SHIFT THAT PARTS two factors of one degree -/
section
theorem sgI_one (c : Int) (i : Nat) : ∀ n, sgI (fun j => if j = i then c else 0) n = if i < n then c else 0
  | 0 => by simp [sgI]
  | n + 1 => by
    simp only [sgI]
    rw [sgI_one c i n]
    by_cases h : n = i
    · rw [if_pos h, if_neg (by omega), if_pos (by omega)]; omega
    · rw [if_neg h]
      by_cases h2 : i < n
      · rw [if_pos h2, if_pos (by omega)]; omega
      · rw [if_neg h2, if_neg (by omega)]; rfl
theorem vI_cg {p : Nat} {n : Nat} (f : PP) {s t : Int} (h : (p : Int) ∣ s - t) : (p : Int) ∣ vI n f s - vI n f t := ev_cg (idl_int (p : Int)) h n f
/-- zeros are few -/
theorem zer {p n N : Nat} (hp : Pr (p : Int)) {G : PF} {m : Nat} (hm : md p G.1 m) (hG : dl G.1 n) (t : Nat → Int) (ht : ∀ i j, i < j → j < N → ¬ (p : Int) ∣ t i - t j) (h : ∀ i, i < N → (p : Int) ∣ vI n G.1 (t i)) : N ≤ m := by
  have := ordN hp hm t ht (N := N) (M := 1) (fun i hi => by
    rw [jI_zp]
    have hid : Idl pfR (ZP p (wP (t i)).1) := idl_p
    refine hid.of_sub (v_at hG (t i)) (zc_zp (fun k => ?_))
    cases k with
    | zero => exact h i hi
    | succ k => exact Int.dvd_zero _)
  omega
theorem nzr {p n : Nat} (hp : Pr (p : Int)) {G : PF} {m : Nat} (hm : md p G.1 m) (hG : dl G.1 n) (hmp : m + 1 < p) : ∃ r, ¬ (p : Int) ∣ vI n G.1 r := Classical.byContradiction fun w => by
  have := zer hp hm hG (fun i => (i : Int)) (N := m + 1) (fun i j hij hj z => by
    have z' := Int.dvd_neg.mpr z
    have := Int.le_of_dvd (by omega) z'
    omega) (fun i _ => Classical.byContradiction fun z => w ⟨_, z⟩)
  omega
/-- the sum of symbols of a polynomial that is no square -/
theorem cbd {p c m : Nat} (hp : Pr (p : Int)) (hc : 2 * c + 1 = p) (h1 : 33554467 ≤ p) (h2 : p ≤ 33555000) {G : PF} (hm12 : m ≤ 12) (hm : md p G.1 m) (hG : dl G.1 (m + 1)) (hs : nsq p G) (u : Nat → Int) (hu : ∀ t : Nat, (p : Int) ∣ vI (m + 1) G.1 (-(t : Int)) - u t) : sgI (fun t => chi p c (u t)) p ≤ 320000 := by
  have hu' : ∀ t : Nat, (p : Int) ∣ u t - vI (m + 1) G.1 (-(t : Int)) := fun t => by have := Int.dvd_neg.mpr (hu t); rwa [Int.neg_sub] at this
  have e := sgI_chi p c u p
  obtain ⟨r, hr⟩ := nzr hp hm hG (by omega)
  have n1 : cn (fun t => decide (chi p c (u t) = 1)) p * 1598 < 800 * p + (1598 + c) * m + 16777200 := by
    obtain ⟨t, a1, a2⟩ := cn_list (fun t => decide (chi p c (u t) = 1)) p
    refine stepv hp hc hG hr hs (D := 16777200) (by decide) (by omega) (M := 1598) (J := 800) (by omega) ?_ (fun i => -(t i : Int)) (pts (fun i hi => (a1 i hi).1) a2) (fun i hi => ?_)
    · have : 1598 * m ≤ 1598 * 12 := Nat.mul_le_mul_left _ hm12
      omega
    · have h3 := of_decide_eq_true (a1 i hi).2
      have h4 := (chi_eq1 h3).2
      have h5 : (p : Int) ∣ vI (m + 1) G.1 (-(t i : Int)) ^ c - u (t i) ^ c := (idl_int (p : Int)).pow2 (hu (t i)) c
      have := Int.dvd_add h5 h4
      rwa [show ∀ x y : Int, x - y + (y - 1) = x - 1 from fun x y => by omega] at this
  have n0 : cn (fun t => decide (chi p c (u t) = 0)) p ≤ m := by
    obtain ⟨t, a1, a2⟩ := cn_list (fun t => decide (chi p c (u t) = 0)) p
    refine zer hp hm hG (fun i => -(t i : Int)) (pts (fun i hi => (a1 i hi).1) a2) (fun i hi => ?_)
    exact dvd_of_cg (hu (t i)) (chi_eq0 (of_decide_eq_true (a1 i hi).2))
  have h3 : (1598 + c) * m ≤ (1598 + c) * 12 := Nat.mul_le_mul_left _ hm12
  generalize (1598 + c) * m = z at *
  generalize cn (fun t => decide (chi p c (u t) = 1)) p = x at *
  generalize cn (fun t => decide (chi p c (u t) = 0)) p = y at *
  generalize sgI (fun t => chi p c (u t)) p = w at *
  omega
theorem win {p c : Nat} (v : Nat → Int) : ∀ n : Nat, (∀ i, i < n → chi p c (v i) ≠ -1) → sgI (fun i => chi p c (v i)) n + cn (fun i => decide (chi p c (v i) = 0)) n = n
  | 0, _ => rfl
  | n + 1, h => by
    have ih := win v n (fun i hi => h i (by omega))
    simp only [sgI, cn]
    rcases chi_cs p c (v n) with q | q | q
    · simp [q]; omega
    · simp [q]; omega
    · exact absurd q (h n (by omega))
/-- the value at -s of both -/
def vv (d : Nat) (f1 f2 : PP) (s : Nat) : Int := vI (d + 1) f1 (-(s : Int)) * vI (d + 1) f2 (-(s : Int))
theorem shift_ex {p c d : Nat} (hp : Pr (p : Int)) (hc : 2 * c + 1 = p) (h1 : 33554467 ≤ p) (h2 : p ≤ 33555000) (hd : d ≤ 3) {f1 f2 : PF} (i1 : IrM p f1.1 d) (i2 : IrM p f2.1 d) (d1 : dl f1.1 (d + 1)) (d2 : dl f2.1 (d + 1)) (t1 : f1.1 d = 1) (t2 : f2.1 d = 1) (hne : ¬ cg p f1.1 f2.1) : ∃ s, s < 1000000 ∧ chi p c (vv d f1.1 f2.1 s) = -1 := Classical.byContradiction fun hno => by
  have hno : ∀ s, s < 1000000 → chi p c (vv d f1.1 f2.1 s) ≠ -1 := fun s hs w => hno ⟨s, hs, w⟩
  obtain ⟨v, hv⟩ : ∃ v, v = vv d f1.1 f2.1 := ⟨_, rfl⟩
  rw [← hv] at hno
  obtain ⟨x, hx⟩ : ∃ x, x = fun t => chi p c (v t) := ⟨_, rfl⟩
  have hxt : ∀ t, x t = chi p c (v t) := fun t => by rw [hx]
  have hd0 := i1.2.2.1
  have hmul := chi_mul hp hc (by omega)
  -- periods
  have hper : ∀ t, x (t + p) = x t := fun t => by
    rw [hxt, hxt]
    apply chi_cg
    rw [hv]
    have a : (p : Int) ∣ -((t + p : Nat) : Int) - -(t : Int) := ⟨-1, by omega⟩
    exact (idl_int (p : Int)).mul2 (vI_cg f1.1 a) (vI_cg f2.1 a)
  -- the complete sums
  have hB : ∀ δ, 0 < δ → δ < 100 → sgI (fun t => x t * x (t + δ)) p ≤ 320000 := fun δ hδ hδ1 => by
    obtain ⟨g1, e1⟩ : ∃ g1 : PF, g1.1 = sf (-(δ : Int)) (d + 1) f1.1 := ⟨⟨sf (-(δ : Int)) (d + 1) f1.1, _, sf_dl _ _ _⟩, rfl⟩
    obtain ⟨g2, e2⟩ : ∃ g2 : PF, g2.1 = sf (-(δ : Int)) (d + 1) f2.1 := ⟨⟨sf (-(δ : Int)) (d + 1) f2.1, _, sf_dl _ _ _⟩, rfl⟩
    have dg1 : dl g1.1 (d + 1) := by rw [e1]; exact sf_dl _ _ _
    have dg2 : dl g2.1 (d + 1) := by rw [e2]; exact sf_dl _ _ _
    have mg : ∀ {g : PF}, dl g.1 (d + 1) → g.1 d = 1 → md p g.1 d := fun hg h => ⟨by rw [h]; exact hp.n1, fun k hk => by rw [hg k (by omega)]; exact Int.dvd_zero _⟩
    have hm : md p (letI := pfR; f1 * f2 * (g1 * g2)).1 (d + d + (d + d)) := ((mg d1 t1).mul hp (mg d2 t2)).mul hp ((mg dg1 (by rw [e1, sf_top]; exact t1)).mul hp (mg dg2 (by rw [e2, sf_top]; exact t2)))
    have hG : dl (letI := pfR; f1 * f2 * (g1 * g2)).1 (d + d + (d + d) + 1) := pm_dl _ _ _ _ (pm_dl _ _ _ _ d1 d2) (pm_dl _ _ _ _ dg1 dg2)
    have hs := two_nsq hp (by omega) (fun w => by
      have := Int.le_of_dvd (by omega) (Int.dvd_neg.mpr w)
      omega) i1 i2 d1 d2 t1 t2 hne e1 e2
    have h3 := cbd hp hc h1 h2 (by omega) hm hG hs (fun t => v t * v (t + δ)) (fun t => by
      have := v_two hp d1 d2 e1 e2 hG (-(t : Int))
      rw [hv]
      show (p : Int) ∣ _ - vI (d + 1) f1.1 (-(t : Int)) * vI (d + 1) f2.1 (-(t : Int)) * (vI (d + 1) f1.1 (-((t + δ : Nat) : Int)) * vI (d + 1) f2.1 (-((t + δ : Nat) : Int)))
      rw [show -((t + δ : Nat) : Int) = -(t : Int) + -(δ : Int) by omega]
      exact this)
    have e3 : (fun t => x t * x (t + δ)) = (fun t => chi p c (v t * v (t + δ))) := funext fun t => by rw [hxt, hxt, hmul]
    rw [e3]
    exact h3
  have hx1 : ∀ t, x t * x t ≤ 1 := fun t => by
    rw [hxt]
    rcases chi_cs p c (v t) with q | q | q <;> rw [q] <;> decide
  have hij : ∀ i j, i < 100 → j < 100 → sgI (fun t => x (t + i) * x (t + j)) p ≤ 320000 + if j = i then (p : Int) else 0 := fun i j hi hj => by
    rcases Nat.lt_trichotomy i j with q | q | q
    · rw [if_neg (by omega)]
      have a := hB (j - i) (by omega) (by omega)
      have b := sgI_tr (f := fun t => x t * x (t + (j - i))) (p := p) (fun t => by
        show x (t + p) * x (t + p + (j - i)) = x t * x (t + (j - i))
        rw [hper, show t + p + (j - i) = t + (j - i) + p by omega, hper]) i
      have e : (fun t => x (t + i) * x (t + i + (j - i))) = (fun t => x (t + i) * x (t + j)) := funext fun t => by rw [show t + i + (j - i) = t + j by omega]
      simp only [e] at b
      omega
    · subst q
      rw [if_pos rfl]
      have := sgI_le (f := fun t => x (t + i) * x (t + i)) (g := fun _ => 1) p (fun t _ => hx1 (t + i))
      rw [sgI_k] at this
      omega
    · rw [if_neg (by omega)]
      have a := hB (i - j) (by omega) (by omega)
      have b := sgI_tr (f := fun t => x t * x (t + (i - j))) (p := p) (fun t => by
        show x (t + p) * x (t + p + (i - j)) = x t * x (t + (i - j))
        rw [hper, show t + p + (i - j) = t + (i - j) + p by omega, hper]) j
      have e : (fun t => x (t + j) * x (t + j + (i - j))) = (fun t => x (t + i) * x (t + j)) := funext fun t => by rw [show t + j + (i - j) = t + i by omega, Int.mul_comm]
      simp only [e] at b
      omega
  -- above
  have hup : sgI (fun t => sgI (fun i => x (t + i)) 100 * sgI (fun i => x (t + i)) 100) p ≤ 100 * (100 * 320000 + (p : Int)) := by
    have e : (fun t => sgI (fun i => x (t + i)) 100 * sgI (fun i => x (t + i)) 100) = (fun t => sgI (fun i => sgI (fun j => x (t + i) * x (t + j)) 100) 100) := funext fun t => sgI_sq (fun i => x (t + i)) 100
    rw [e, sgI_swap (fun t i => sgI (fun j => x (t + i) * x (t + j)) 100) 100 p]
    have hi : ∀ i, i < 100 → sgI (fun t => sgI (fun j => x (t + i) * x (t + j)) 100) p ≤ 100 * 320000 + (p : Int) := fun i hi => by
      rw [sgI_swap (fun t j => x (t + i) * x (t + j)) 100 p]
      have a := sgI_le (f := fun j => sgI (fun t => x (t + i) * x (t + j)) p) (g := fun j => 320000 + if j = i then (p : Int) else 0) 100 (fun j hj => hij i j hi hj)
      rw [sgI_add, sgI_k, sgI_one, if_pos hi] at a
      exact a
    have b := sgI_le (f := fun i => sgI (fun t => sgI (fun j => x (t + i) * x (t + j)) 100) p) (g := fun _ => 100 * 320000 + (p : Int)) 100 hi
    rw [sgI_k] at b
    exact b
  -- below
  have hF : md p (letI := pfR; f1 * f2).1 (d + d) := i1.2.1.mul hp i2.2.1
  have hFd : dl (letI := pfR; f1 * f2).1 (d + d + 1) := pm_dl _ _ _ _ d1 d2
  have hwin : ∀ t, t < 999900 → 94 ≤ sgI (fun i => x (t + i)) 100 := fun t ht => by
    have a := win (p := p) (c := c) (fun i => v (t + i)) 100 (fun i hi => hno (t + i) (by omega))
    obtain ⟨s, s1, s2⟩ := cn_list (fun i => decide (chi p c (v (t + i)) = 0)) 100
    have b : cn (fun i => decide (chi p c (v (t + i)) = 0)) 100 ≤ d + d := zer hp hF hFd (fun i => -((t + s i : Nat) : Int)) (fun i j hij hj w => by
      have a := s2 i j hij hj
      have b := (s1 j hj).1
      have := Int.le_of_dvd (by omega) w
      omega) (fun i hi => by
      have h3 := chi_eq0 (of_decide_eq_true (s1 i hi).2)
      rw [hv] at h3
      refine dvd_of_cg (y := vI (d + 1) f1.1 (-((t + s i : Nat) : Int)) * vI (d + 1) f2.1 (-((t + s i : Nat) : Int))) (v_uniq hp hFd ?_) h3
      rw [← kP_mul]
      have hid : Idl pfR (ZP p (wP (-((t + s i : Nat) : Int))).1) := idl_p
      exact hid.mul2 (v_at d1 _) (v_at d2 _))
    have e : (fun i => x (t + i)) = (fun i => chi p c (v (t + i))) := funext fun i => hxt (t + i)
    rw [e]
    omega
  have hlo : 999900 * (94 * 94) ≤ sgI (fun t => sgI (fun i => x (t + i)) 100 * sgI (fun i => x (t + i)) 100) p := by
    obtain ⟨n, hn⟩ : ∃ n, p = 999900 + n := ⟨p - 999900, by omega⟩
    have a := sgI_split (fun t => sgI (fun i => x (t + i)) 100 * sgI (fun i => x (t + i)) 100) 999900 n
    rw [← hn] at a
    have b := sgI_le (f := fun _ => 94 * 94) (g := fun t => sgI (fun i => x (t + i)) 100 * sgI (fun i => x (t + i)) 100) 999900 (fun t ht => by
      have := hwin t ht
      exact Int.mul_le_mul this this (by decide) (by omega))
    rw [sgI_k] at b
    have c' := sgI_nn (f := fun j => sgI (fun i => x (999900 + j + i)) 100 * sgI (fun i => x (999900 + j + i)) 100) n (fun j _ => by
      generalize sgI (fun i => x (999900 + j + i)) 100 = z
      rcases Int.le_total 0 z with q | q
      · exact Int.mul_nonneg q q
      · exact Int.mul_nonneg_of_nonpos_of_nonpos q q)
    rw [a]
    have e1 : ((999900 : Nat) : Int) * (94 * 94) = 999900 * (94 * 94) := rfl
    rw [e1] at b
    exact Int.le_trans b (by omega)
  omega
end
