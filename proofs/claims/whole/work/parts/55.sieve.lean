/-! SIX PRIMES SUFFICE: if modulo each there is a combination of low degree that vanishes, there is one with whole coefficients -/
section
theorem php : ∀ (m n : Nat) (f : Nat → Nat), (∀ i, i < n → f i < m) → m < n → ∃ i j, i < j ∧ j < n ∧ f i = f j
  | 0, n, f, h, hn => absurd (h 0 hn) (Nat.not_lt_zero _)
  | m + 1, 0, f, h, hn => absurd hn (Nat.not_lt_zero _)
  | m + 1, n + 1, f, h, hn => by
    by_cases hc : ∃ i, i < n ∧ f i = f n
    · obtain ⟨i, hi, e⟩ := hc
      exact ⟨i, n, hi, by omega, e⟩
    · have hne : ∀ i, i < n → f i ≠ f n := fun i hi e => hc ⟨i, hi, e⟩
      obtain ⟨i, j, hij, hj, e⟩ := php m n (fun i => if f i = m then f n else f i) (fun i hi => by
        have h1 := h i (by omega)
        have h2 := h n (by omega)
        have h3 := hne i hi
        by_cases q : f i = m
        · simp only [q, if_true]; omega
        · simp only [q, if_false]; omega) (by omega)
      refine ⟨i, j, hij, by omega, ?_⟩
      have h3 := hne i (by omega)
      have h4 := hne j hj
      by_cases q : f i = m
      · by_cases r : f j = m
        · omega
        · simp only [q, r, if_true, if_false] at e; exact absurd e.symm h4
      · by_cases r : f j = m
        · simp only [q, r, if_true, if_false] at e; exact absurd e h3
        · simp only [q, r, if_false] at e; exact e
/-- digits -/
def enc (B : Nat) (f : Nat → Nat) : Nat → Nat
  | 0 => 0
  | n + 1 => enc B f n * B + f n
theorem enc_lt {B : Nat} {f : Nat → Nat} : ∀ n, (∀ k, k < n → f k < B) → enc B f n < B ^ n
  | 0, _ => by simp [enc]
  | n + 1, h => by
    have h1 := enc_lt n (fun k hk => h k (by omega))
    have h2 := h n (by omega)
    rw [enc, Nat.pow_succ]
    have h3 : (enc B f n + 1) * B ≤ B ^ n * B := Nat.mul_le_mul_right B h1
    rw [Nat.add_mul] at h3
    omega
theorem enc_inj {B : Nat} {f g : Nat → Nat} : ∀ n, (∀ k, k < n → f k < B) → (∀ k, k < n → g k < B) → enc B f n = enc B g n → ∀ k, k < n → f k = g k
  | 0, _, _, _ => fun k hk => absurd hk (Nat.not_lt_zero _)
  | n + 1, hf, hg, e => by
    have h1 := hf n (by omega)
    have h2 := hg n (by omega)
    rw [enc, enc] at e
    have e1 : f n = g n := by
      have := congrArg (· % B) e
      simp only [Nat.mul_add_mod_self_right, Nat.mul_comm _ B, Nat.mul_add_mod_self_left] at this
      rw [Nat.mod_eq_of_lt h1, Nat.mod_eq_of_lt h2] at this
      exact this
    have e2 : enc B f n = enc B g n := by
      rw [e1] at e
      have : enc B f n * B = enc B g n * B := by omega
      exact Nat.eq_of_mul_eq_mul_right (by omega) this
    intro k hk
    by_cases q : k = n
    · rw [q]; exact e1
    · exact enc_inj n (fun k hk => hf k (by omega)) (fun k hk => hg k (by omega)) e2 k (by omega)
/-- the sum of the sizes of the first n -/
def sa (a : PP) : Nat → Nat
  | 0 => 0
  | n + 1 => (a 0).natAbs + sa (pt a) n
theorem pm_ab {P : Nat} {U : PP} (hU : ∀ k, 2 * (U k).natAbs ≤ P) : ∀ (n : Nat) (a : PP) (k : Nat), dl a n → 2 * (pm a U k).natAbs ≤ P * sa a n
  | 0, a, k, h => by
    have e : a = p0 := funext fun j => h j (Nat.zero_le j)
    rw [e, pm_0l]
    simp [p0]
  | n + 1, a, k, h => by
    have h0 : 2 * (a 0 * U k).natAbs ≤ P * (a 0).natAbs := by
      rw [Int.natAbs_mul]
      have := Nat.mul_le_mul_left (a 0).natAbs (hU k)
      rw [Nat.mul_comm P, Nat.mul_left_comm]
      exact this
    cases k with
    | zero =>
      rw [pm, sa, Nat.mul_add]
      omega
    | succ k =>
      have h1 := pm_ab hU n (pt a) k (pt_dl h)
      rw [pm, sa, Nat.mul_add]
      have := Int.natAbs_add_le (a 0 * U (k + 1)) (pm (pt a) U k)
      omega
theorem sa_le {B : Nat} : ∀ (n : Nat) (a : PP), (∀ k, (a k).natAbs ≤ B) → sa a n ≤ n * B
  | 0, _, _ => by simp [sa]
  | n + 1, a, h => by
    have h1 := sa_le n (pt a) (fun k => h (k + 1))
    have h2 := h 0
    rw [sa, Nat.add_mul]
    omega
/-- no combination of low degree vanishes -/
def inj2 (a b : PP) (A B : Nat) : Prop := ∀ u v, dl u A → dl v B → pa (pm u a) (pm v b) = p0 → u = p0 ∧ v = p0
/-- only multiples of Q make a multiple of Q -/
def fth (Q : Int) (u v : PP) : Prop := ∀ s : Int, al Q (pc s u) → al Q (pc s v) → Q ∣ s
def zro (Q : Int) (a b u v : PP) : Prop := al Q (pa (pm u a) (pm v b))
theorem comb {Q p x y : Int} {a b u v u' v' : PP} {A B : Nat} (h : x * Q + y * p = 1) (hu : dl u A) (hv : dl v B) (hu' : dl u' A) (hv' : dl v' B) (h1 : fth Q u v) (h2 : fth p u' v') (z1 : zro Q a b u v) (z2 : zro p a b u' v') :
    ∃ U V, dl U A ∧ dl V B ∧ fth (Q * p) U V ∧ zro (Q * p) a b U V := by
  refine ⟨pa (pc p u) (pc Q u'), pa (pc p v) (pc Q v'), ?_, ?_, ?_, ?_⟩
  · intro k hk; simp only [pa, pc]; rw [hu k hk, hu' k hk]; simp
  · intro k hk; simp only [pa, pc]; rw [hv k hk, hv' k hk]; simp
  · intro s hs ht
    have hQ : Q ∣ s * p := by
      refine h1 (s * p) (fun k => ?_) (fun k => ?_)
      · have q := Int.dvd_trans ⟨p, rfl⟩ (hs k)
        simp only [pc, pa] at q ⊢
        have r : Q ∣ s * (Q * u' k) := ⟨s * u' k, by rw [Int.mul_left_comm]⟩
        have := Int.dvd_sub q r
        rw [show s * (p * u k + Q * u' k) - s * (Q * u' k) = s * p * u k by rw [Int.mul_add, Int.mul_assoc]; omega] at this
        exact this
      · have q := Int.dvd_trans ⟨p, rfl⟩ (ht k)
        simp only [pc, pa] at q ⊢
        have r : Q ∣ s * (Q * v' k) := ⟨s * v' k, by rw [Int.mul_left_comm]⟩
        have := Int.dvd_sub q r
        rw [show s * (p * v k + Q * v' k) - s * (Q * v' k) = s * p * v k by rw [Int.mul_add, Int.mul_assoc]; omega] at this
        exact this
    have hp : p ∣ s * Q := by
      refine h2 (s * Q) (fun k => ?_) (fun k => ?_)
      · have q := Int.dvd_trans ⟨Q, Int.mul_comm Q p⟩ (hs k)
        simp only [pc, pa] at q ⊢
        have r : p ∣ s * (p * u k) := ⟨s * u k, by rw [Int.mul_left_comm]⟩
        have := Int.dvd_sub q r
        rw [show s * (p * u k + Q * u' k) - s * (p * u k) = s * Q * u' k by rw [Int.mul_add, Int.mul_assoc]; omega] at this
        exact this
      · have q := Int.dvd_trans ⟨Q, Int.mul_comm Q p⟩ (ht k)
        simp only [pc, pa] at q ⊢
        have r : p ∣ s * (p * v k) := ⟨s * v k, by rw [Int.mul_left_comm]⟩
        have := Int.dvd_sub q r
        rw [show s * (p * v k + Q * v' k) - s * (p * v k) = s * Q * v' k by rw [Int.mul_add, Int.mul_assoc]; omega] at this
        exact this
    -- s = s (xQ + yp)
    obtain ⟨c, hc⟩ := hQ
    obtain ⟨d, hd⟩ := hp
    have e : s = s * (x * Q + y * p) := by rw [h]; simp
    have e1 : s * (x * Q + y * p) = x * (s * Q) + y * (s * p) := by rw [Int.mul_add, Int.mul_left_comm s x Q, Int.mul_left_comm s y p]
    obtain ⟨n, hn⟩ : ∃ n, s = Q * n := ⟨x * s + y * c, by
      have e2 : x * (s * Q) + y * (Q * c) = Q * (x * s + y * c) := by rw [Int.mul_add, Int.mul_left_comm Q y c, Int.mul_comm s Q, Int.mul_left_comm Q x s]
      rw [← e2, ← hc, ← e1]; exact e⟩
    obtain ⟨m, hm⟩ : ∃ m, s = p * m := ⟨x * d + y * s, by
      have e2 : x * (p * d) + y * (s * p) = p * (x * d + y * s) := by rw [Int.mul_add, Int.mul_left_comm p y s, Int.mul_comm s p, Int.mul_left_comm p x d]
      rw [← e2, ← hd, ← e1]; exact e⟩
    refine ⟨x * m + y * n, ?_⟩
    have e3 : x * (p * m * Q) + y * (Q * n * p) = Q * p * (x * m + y * n) := by
      rw [Int.mul_add]
      have a1 : x * (p * m * Q) = Q * p * (x * m) := by rw [Int.mul_right_comm p m Q, Int.mul_comm p Q, Int.mul_left_comm]
      have a2 : y * (Q * n * p) = Q * p * (y * n) := by rw [Int.mul_right_comm Q n p, Int.mul_left_comm]
      rw [a1, a2]
    rw [← e3, ← hm, ← hn, ← e1]
    exact e
  · intro k
    obtain ⟨c, hc⟩ := z1 k
    obtain ⟨d, hd⟩ := z2 k
    refine ⟨c + d, ?_⟩
    simp only [pa] at hc hd ⊢
    rw [pm_add_l, pm_add_l, pm_c_l, pm_c_l, pm_c_l, pm_c_l]
    have e : p * pm u a k + Q * pm u' a k + (p * pm v b k + Q * pm v' b k) = p * (pm u a k + pm v b k) + Q * (pm u' a k + pm v' b k) := by grind
    rw [e, hc, hd]
    grind
theorem fth_pr {p : Int} (hp : Pr p) {u v : PP} (h : ¬ (al p u ∧ al p v)) : fth p u v := by
  intro s hs ht
  by_cases q : p ∣ s
  · exact q
  · refine absurd ⟨fun k => ?_, fun k => ?_⟩ h
    · rcases hp.2 _ _ (hs k) with r | r
      · exact absurd r q
      · exact r
    · rcases hp.2 _ _ (ht k) with r | r
      · exact absurd r q
      · exact r
theorem bm_ab (x : Int) (P : Nat) (hP : 0 < P) : 2 * (Int.bmod x P).natAbs ≤ P := by
  have h1 := Int.le_bmod (x := x) (m := P) hP
  have h2 := Int.bmod_lt (x := x) (m := P) hP
  omega
/-- the pigeons -/
theorem sieveG {a b u v : PP} {A B P S N : Nat} (hP : (2 * S + 1) ^ N < P) (ha : dl a 7) (hb : dl b 7) (hS : sa a 7 + sa b 7 ≤ 2 * S) (hN : ∀ U V, dl U A → dl V B → dl (pa (pm U a) (pm V b)) N) (hu : dl u A) (hv : dl v B) (hi : inj2 a b A B) (hz : zro P a b u v) (hf : fth P u v) : False := by
  have hP0 : 0 < P := by omega
  obtain ⟨U, hU⟩ : ∃ U : Nat → PP, U = fun (t : Nat) k => Int.bmod ((t : Int) * u k) P := ⟨_, rfl⟩
  obtain ⟨V, hV⟩ : ∃ V : Nat → PP, V = fun (t : Nat) k => Int.bmod ((t : Int) * v k) P := ⟨_, rfl⟩
  have hUd : ∀ t, dl (U t) A := fun t k hk => by rw [hU]; simp only; rw [hu k hk]; simp
  have hVd : ∀ t, dl (V t) B := fun t k hk => by rw [hV]; simp only; rw [hv k hk]; simp
  have hUc : ∀ t k, (P : Int) ∣ U t k - (t : Int) * u k := fun t k => by rw [hU]; exact Int.dvd_bmod_sub_self
  have hVc : ∀ t k, (P : Int) ∣ V t k - (t : Int) * v k := fun t k => by rw [hV]; exact Int.dvd_bmod_sub_self
  have hUb : ∀ t k, 2 * (U t k).natAbs ≤ P := fun t k => by rw [hU]; exact bm_ab _ P hP0
  have hVb : ∀ t k, 2 * (V t k).natAbs ≤ P := fun t k => by rw [hV]; exact bm_ab _ P hP0
  obtain ⟨Z, hZ⟩ : ∃ Z : Nat → PP, Z = fun t => pa (pm (U t) a) (pm (V t) b) := ⟨_, rfl⟩
  have hZd : ∀ t, dl (Z t) N := fun t => by rw [hZ]; exact hN (U t) (V t) (hUd t) (hVd t)
  have hZc : ∀ t k, (P : Int) ∣ Z t k := by
    intro t k
    have e1 : al (P : Int) (pa (U t) (pc (-(t : Int)) u)) := fun k => by have := hUc t k; simp only [pa, pc]; rw [Int.neg_mul, ← Int.sub_eq_add_neg]; exact this
    have e2 : al (P : Int) (pa (V t) (pc (-(t : Int)) v)) := fun k => by have := hVc t k; simp only [pa, pc]; rw [Int.neg_mul, ← Int.sub_eq_add_neg]; exact this
    have h1 : (P : Int) ∣ pm a (pa (U t) (pc (-(t : Int)) u)) k := low0 _ k a (fun b _ => e1 b)
    have h2 : (P : Int) ∣ pm b (pa (V t) (pc (-(t : Int)) v)) k := low0 _ k b (fun b _ => e2 b)
    rw [pm_add_r a, pm_c_r, pm_comm k a (U t), pm_comm k a u] at h1
    rw [pm_add_r b, pm_c_r, pm_comm k b (V t), pm_comm k b v] at h2
    have h3 : (P : Int) ∣ (t : Int) * (pm u a k + pm v b k) := Int.dvd_mul_of_dvd_right (hz k)
    have h4 := Int.dvd_add (Int.dvd_add h1 h2) h3
    rw [hZ]
    simp only [pa]
    have e : pm (U t) a k + -(t : Int) * pm u a k + (pm (V t) b k + -(t : Int) * pm v b k) + (t : Int) * (pm u a k + pm v b k) = pm (U t) a k + pm (V t) b k := by grind
    rw [e] at h4
    exact h4
  have hZb : ∀ t k, (Z t k / P).natAbs ≤ S := by
    intro t k
    have h1 := pm_ab (hUb t) 7 a k ha
    have h2 := pm_ab (hVb t) 7 b k hb
    rw [pm_comm] at h1 h2
    have h3 : 2 * (Z t k).natAbs ≤ P * (2 * S) := by
      rw [hZ]
      simp only [pa]
      have := Int.natAbs_add_le (pm (U t) a k) (pm (V t) b k)
      have h4 : P * (sa a 7 + sa b 7) ≤ P * (2 * S) := Nat.mul_le_mul_left P hS
      rw [Nat.mul_add] at h4
      omega
    obtain ⟨c, hc⟩ := hZc t k
    rw [hc, Int.mul_ediv_cancel_left _ (by omega)]
    rw [hc, Int.natAbs_mul, Int.natAbs_natCast] at h3
    have h6 : P * (2 * c.natAbs) ≤ P * (2 * S) := by rw [Nat.mul_left_comm]; exact h3
    have := Nat.le_of_mul_le_mul_left h6 hP0
    omega
  obtain ⟨i, j, hij, hj, e⟩ := php ((2 * S + 1) ^ N) P (fun t => enc (2 * S + 1) (fun k => (Z t k / P + S).toNat) N) (fun t _ => enc_lt N (fun k _ => by have := hZb t k; omega)) hP
  have e2 := enc_inj N (fun k _ => by have := hZb i k; omega) (fun k _ => by have := hZb j k; omega) e
  have e3 : Z i = Z j := by
    funext k
    by_cases hk : k < N
    · have h1 := e2 k hk
      have h2 := hZb i k
      have h3 := hZb j k
      have h4 : Z i k / P = Z j k / P := by omega
      have h5 := Int.mul_ediv_cancel' (hZc i k)
      have h6 := Int.mul_ediv_cancel' (hZc j k)
      rw [← h5, ← h6, h4]
    · rw [hZd i k (by omega), hZd j k (by omega)]
  have e4 := hi (pa (U j) (pc (-1) (U i))) (pa (V j) (pc (-1) (V i))) (fun k hk => by simp only [pa, pc]; rw [hUd j k hk, hUd i k hk]; simp) (fun k hk => by simp only [pa, pc]; rw [hVd j k hk, hVd i k hk]; simp) (by
    funext k
    have h1 := congrFun e3 k
    rw [hZ] at h1
    simp only [pa] at h1 ⊢
    rw [pm_add_l, pm_add_l, pm_c_l, pm_c_l]
    simp only [p0]
    omega)
  have h7 : (P : Int) ∣ ((j : Int) - (i : Int)) := by
    refine hf _ (fun k => ?_) (fun k => ?_)
    · have h1 := congrFun e4.1 k
      simp only [pa, pc, p0] at h1 ⊢
      have h2 := Int.dvd_sub (hUc i k) (hUc j k)
      have e5 : U i k - (i : Int) * u k - (U j k - (j : Int) * u k) = ((j : Int) - (i : Int)) * u k := by
        rw [Int.sub_mul]; omega
      rw [e5] at h2
      exact h2
    · have h1 := congrFun e4.2 k
      simp only [pa, pc, p0] at h1 ⊢
      have h2 := Int.dvd_sub (hVc i k) (hVc j k)
      have e5 : V i k - (i : Int) * v k - (V j k - (j : Int) * v k) = ((j : Int) - (i : Int)) * v k := by
        rw [Int.sub_mul]; omega
      rw [e5] at h2
      exact h2
  obtain ⟨c, hc⟩ := h7
  have hc0 : 0 < c := by
    rcases Int.lt_or_le 0 c with q | q
    · exact q
    · have := Int.mul_nonpos_of_nonneg_of_nonpos (show (0 : Int) ≤ P by omega) q
      omega
  have := Int.mul_le_mul_of_nonneg_left (show (1 : Int) ≤ c by omega) (show (0 : Int) ≤ P by omega)
  omega
theorem sieve {a b u v : PP} {A B P : Nat} (hP : 4201 ^ 12 < P) (ha : sm7 a) (hb : sm7 b) (hA : A ≤ 6) (hB : B ≤ 6) (hu : dl u A) (hv : dl v B) (hi : inj2 a b A B) (hz : zro P a b u v) (hf : fth P u v) : False := by
  have hsa : sa a 7 ≤ 2100 := Nat.le_trans (sa_le (B := 300) 7 a (fun k => by have := ha.2 k; omega)) (by omega)
  have hsb : sa b 7 ≤ 2100 := Nat.le_trans (sa_le (B := 300) 7 b (fun k => by have := hb.2 k; omega)) (by omega)
  refine sieveG (S := 2100) (N := 12) hP ha.1 hb.1 (by omega) (fun U V hU hV k hk => ?_) hu hv hi hz hf
  have h1 := pm_dl 5 U a 6 (dl_mono hU (by omega)) ha.1 k (by omega)
  have h2 := pm_dl 5 V b 6 (dl_mono hV (by omega)) hb.1 k (by omega)
  simp only [pa]
  rw [h1, h2]; rfl
/-- the six: one of them always serves -/
theorem six0 {a b : PP} {A B : Nat} (hsv : ∀ U V, dl U A → dl V B → zro 1427263856193303154645102986646247965679393083 a b U V → fth 1427263856193303154645102986646247965679393083 U V → False) (hp : ∀ i, i < 6 → Pr (bigP i).toInt) (h : ∀ i, i < 6 → ∃ u v, dl u A ∧ dl v B ∧ ¬ (al (bigP i).toInt u ∧ al (bigP i).toInt v) ∧ zro (bigP i).toInt a b u v) : False := by
  obtain ⟨u0, v0, hu0, hv0, hn0, hz0⟩ := h 0 (by decide)
  have hp0 : Pr 33554467 := hp 0 (by decide)
  have hn0 : fth 33554467 u0 v0 := fth_pr hp0 hn0
  have hz0 : zro 33554467 a b u0 v0 := hz0
  obtain ⟨u1, v1, hu1, hv1, hn1, hz1⟩ := h 1 (by decide)
  have hp1 : Pr 33554473 := hp 1 (by decide)
  have hn1 : fth 33554473 u1 v1 := fth_pr hp1 hn1
  have hz1 : zro 33554473 a b u1 v1 := hz1
  obtain ⟨u2, v2, hu2, hv2, hn2, hz2⟩ := h 2 (by decide)
  have hp2 : Pr 33554501 := hp 2 (by decide)
  have hn2 : fth 33554501 u2 v2 := fth_pr hp2 hn2
  have hz2 : zro 33554501 a b u2 v2 := hz2
  obtain ⟨u3, v3, hu3, hv3, hn3, hz3⟩ := h 3 (by decide)
  have hp3 : Pr 33554503 := hp 3 (by decide)
  have hn3 : fth 33554503 u3 v3 := fth_pr hp3 hn3
  have hz3 : zro 33554503 a b u3 v3 := hz3
  obtain ⟨u4, v4, hu4, hv4, hn4, hz4⟩ := h 4 (by decide)
  have hp4 : Pr 33554509 := hp 4 (by decide)
  have hn4 : fth 33554509 u4 v4 := fth_pr hp4 hn4
  have hz4 : zro 33554509 a b u4 v4 := hz4
  obtain ⟨u5, v5, hu5, hv5, hn5, hz5⟩ := h 5 (by decide)
  have hp5 : Pr 33554519 := hp 5 (by decide)
  have hn5 : fth 33554519 u5 v5 := fth_pr hp5 hn5
  have hz5 : zro 33554519 a b u5 v5 := hz5
  obtain ⟨U1, V1, hU1, hV1, hF1, hZ1⟩ := comb (Q := 33554467) (p := 33554473) (x := 5592412) (y := -5592411) (by decide) hu0 hv0 hu1 hv1 hn0 hn1 hz0 hz1
  have hF1 : fth 1125902456980891 U1 V1 := hF1
  have hZ1 : zro 1125902456980891 a b U1 V1 := hZ1
  obtain ⟨U2, V2, hU2, hV2, hF2, hZ2⟩ := comb (Q := 1125902456980891) (p := 33554501) (x := 14768210) (y := -495539001584609) (by decide) hU1 hV1 hu2 hv2 hF1 hn2 hZ1 hz2
  have hF2 : fth 37779095118667764040391 U2 V2 := hF2
  have hZ2 : zro 37779095118667764040391 a b U2 V2 := hZ2
  obtain ⟨U3, V3, hU3, hV3, hF3, hZ3⟩ := comb (Q := 37779095118667764040391) (p := 33554503) (x := -14804371) (y := 16668276689451982185354) (by decide) hU2 hV2 hu3 hv3 hF2 hn3 hZ2 hz3
  have hF3 : fth 1267658760496622844496591930673 U3 V3 := hF3
  have hZ3 : zro 1267658760496622844496591930673 a b U3 V3 := hZ3
  obtain ⟨U4, V4, hU4, hV4, hF4, hZ4⟩ := comb (Q := 1267658760496622844496591930673) (p := 33554509) (x := 5619696) (y := -212306991758628606746298081323) (by decide) hU3 hV3 hu4 hv4 hF3 hn4 hZ3 hz4
  have hF4 : fth 42535667288012775705266494407094554557 U4 V4 := hF4
  have hZ4 : zro 42535667288012775705266494407094554557 a b U4 V4 := hZ4
  obtain ⟨U5, V5, hU5, hV5, hF5, hZ5⟩ := comb (Q := 42535667288012775705266494407094554557) (p := 33554519) (x := -15372730) (y := 19487370049573729173933960923915335269) (by decide) hU4 hV4 hu5 hv5 hF4 hn5 hZ4 hz5
  have hF5 : fth 1427263856193303154645102986646247965679393083 U5 V5 := hF5
  have hZ5 : zro 1427263856193303154645102986646247965679393083 a b U5 V5 := hZ5
  exact hsv U5 V5 hU5 hV5 hZ5 hF5
theorem six {a b : PP} {A B : Nat} (ha : sm7 a) (hb : sm7 b) (hA : A ≤ 6) (hB : B ≤ 6) (hi : inj2 a b A B) (hp : ∀ i, i < 6 → Pr (bigP i).toInt) (h : ∀ i, i < 6 → ∃ u v, dl u A ∧ dl v B ∧ ¬ (al (bigP i).toInt u ∧ al (bigP i).toInt v) ∧ zro (bigP i).toInt a b u v) : False :=
  six0 (fun _ _ hU hV hZ hF => sieve (P := 1427263856193303154645102986646247965679393083) (by decide) ha hb hA hB hU hV hi hZ hF) hp h
end
