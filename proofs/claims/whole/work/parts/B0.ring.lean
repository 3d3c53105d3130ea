/-! COMMUTATIVE RINGS with a prime ideal: roots are few; the p-th power of a sum -/
section
def Idl {R : Type} (_ : Lean.Grind.CommRing R) (Z : R → Prop) : Prop := Z 0 ∧ (∀ a b, Z a → Z b → Z (a + b)) ∧ ∀ a b, Z a → Z (b * a)
def Prm {R : Type} (g : Lean.Grind.CommRing R) (Z : R → Prop) : Prop := Idl g Z ∧ (∀ a b, Z (a * b) → Z a ∨ Z b) ∧ ¬ Z 1
theorem Idl.neg {R : Type} {g : Lean.Grind.CommRing R} {Z : R → Prop} (h : Idl g Z) {a : R} (ha : Z a) : Z (-a) := by
  have := h.2.2 a (-1) ha
  have e : -1 * a = -a := by grind
  rw [e] at this; exact this
theorem Idl.sub {R : Type} {g : Lean.Grind.CommRing R} {Z : R → Prop} (h : Idl g Z) {a b : R} (ha : Z a) (hb : Z b) : Z (a - b) := by
  have := h.2.1 a (-b) ha (h.neg hb)
  have e : a + -b = a - b := by grind
  rw [e] at this; exact this
theorem Idl.of {R : Type} {g : Lean.Grind.CommRing R} {Z : R → Prop} (h : Idl g Z) {a b : R} (ha : Z a) (e : a = b) : Z b := by rw [← e]; exact ha
/-- a from a - b and b -/
theorem Idl.of_sub {R : Type} {g : Lean.Grind.CommRing R} {Z : R → Prop} (h : Idl g Z) {a b : R} (ha : Z (a - b)) (hb : Z b) : Z a := h.of (h.2.1 _ _ ha hb) (by grind)
theorem Idl.sym {R : Type} {g : Lean.Grind.CommRing R} {Z : R → Prop} (h : Idl g Z) {a b : R} (ha : Z (a - b)) : Z (b - a) := h.of (h.neg ha) (by grind)
theorem Idl.trans {R : Type} {g : Lean.Grind.CommRing R} {Z : R → Prop} (h : Idl g Z) {a b c : R} (ha : Z (a - b)) (hb : Z (b - c)) : Z (a - c) := h.of (h.2.1 _ _ ha hb) (by grind)
theorem Idl.refl {R : Type} {g : Lean.Grind.CommRing R} {Z : R → Prop} (h : Idl g Z) (a : R) : Z (a - a) := h.of h.1 (by grind)
theorem Idl.add2 {R : Type} {g : Lean.Grind.CommRing R} {Z : R → Prop} (h : Idl g Z) {a b c d : R} (ha : Z (a - b)) (hb : Z (c - d)) : Z (a + c - (b + d)) := h.of (h.2.1 _ _ ha hb) (by grind)
theorem Idl.mul2 {R : Type} {g : Lean.Grind.CommRing R} {Z : R → Prop} (h : Idl g Z) {a b c d : R} (ha : Z (a - b)) (hb : Z (c - d)) : Z (a * c - b * d) := h.of (h.2.1 _ _ (h.2.2 _ c ha) (h.2.2 _ b hb)) (by grind)
theorem Idl.pow2 {R : Type} {g : Lean.Grind.CommRing R} {Z : R → Prop} (h : Idl g Z) {a b : R} (ha : Z (a - b)) : ∀ n : Nat, Z (a ^ n - b ^ n)
  | 0 => h.of h.1 (by rw [Lean.Grind.Semiring.pow_zero, Lean.Grind.Semiring.pow_zero]; grind)
  | n + 1 => by
    rw [Lean.Grind.Semiring.pow_succ, Lean.Grind.Semiring.pow_succ]
    exact h.mul2 (h.pow2 ha n) ha
theorem Prm.pow {R : Type} {g : Lean.Grind.CommRing R} {Z : R → Prop} (h : Prm g Z) {a : R} : ∀ n : Nat, Z (a ^ n) → Z a
  | 0, w => by rw [Lean.Grind.Semiring.pow_zero] at w; exact absurd w h.2.2
  | n + 1, w => by
    rw [Lean.Grind.Semiring.pow_succ] at w
    rcases h.2.1 _ _ w with r | r
    · exact h.pow n r
    · exact r
/-- values, by Horner -/
def evG {R : Type} (g : Lean.Grind.CommRing R) : Nat → (Nat → R) → R → R
  | 0, _, _ => 0
  | n + 1, F, a => F 0 + a * evG g n (fun k => F (k + 1)) a
theorem ev_div {R : Type} (g : Lean.Grind.CommRing R) (a b : R) : ∀ (n : Nat) (F : Nat → R), evG g (n + 1) F b = (b - a) * evG g n (fun k => evG g (n - k) (fun j => F (k + 1 + j)) a) b + evG g (n + 1) F a
  | 0, F => by simp only [evG]; grind
  | n + 1, F => by
    have ih := ev_div g a b n (fun k => F (k + 1))
    have e1 : ∀ x : R, evG g (n + 1 + 1) F x = F 0 + x * evG g (n + 1) (fun k => F (k + 1)) x := fun x => rfl
    have e2 : ∀ G : Nat → R, evG g (n + 1) G b = G 0 + b * evG g n (fun k => G (k + 1)) b := fun x => rfl
    rw [e1, e1, ih, e2 (fun k => evG g (n + 1 - k) (fun j => F (k + 1 + j)) a)]
    have e3 : (fun k => evG g (n + 1 - (k + 1)) (fun j => F (k + 1 + 1 + j)) a) = (fun k => evG g (n - k) (fun j => F (k + 1 + j + 1)) a) := funext fun k => by
      rw [show n + 1 - (k + 1) = n - k by omega]
      congr 1
      funext j
      rw [show k + 1 + 1 + j = k + 1 + j + 1 by omega]
    have e4 : (fun j => F (0 + 1 + j)) = (fun k => F (k + 1)) := funext fun j => by rw [show 0 + 1 + j = j + 1 by omega]
    show F 0 + b * _ = (b - a) * (evG g (n + 1 - 0) (fun j => F (0 + 1 + j)) a + b * evG g n (fun k => evG g (n + 1 - (k + 1)) (fun j => F (k + 1 + 1 + j)) a) b) + _
    rw [e3, e4, Nat.sub_zero]
    generalize evG g (n + 1) (fun k => F (k + 1)) a = X
    generalize evG g n (fun k => evG g (n - k) (fun j => F (k + 1 + j + 1)) a) b = Y
    grind
/-- ROOTS ARE FEW -/
theorem rc {R : Type} {g : Lean.Grind.CommRing R} {Z : R → Prop} (hp : Prm g Z) : ∀ (n : Nat) (F r : Nat → R), (∀ i, i < n → Z (evG g n F (r i))) → (∀ i j, i < j → j < n → ¬ Z (r i - r j)) → ∀ k, k < n → Z (F k)
  | 0, _, _, _, _, k, hk => absurd hk (Nat.not_lt_zero k)
  | n + 1, F, r, h1, h2, k, hk => by
    have hi := hp.1
    have ha := h1 n (by omega)
    obtain ⟨Q, hQ⟩ : ∃ Q : Nat → R, Q = fun k => evG g (n - k) (fun j => F (k + 1 + j)) (r n) := ⟨_, rfl⟩
    have hq : ∀ k, k < n → Z (Q k) := rc hp n Q r (fun i hin => by
      have e := ev_div g (r n) (r i) n F
      rw [← hQ] at e
      have h3 : Z ((r i - r n) * evG g n Q (r i)) := hi.of (hi.sub (h1 i (by omega)) ha) (by rw [e]; grind)
      rcases hp.2.1 _ _ h3 with w | w
      · exact absurd w (h2 i n hin (by omega))
      · exact w) (fun i j hij hj => h2 i j hij (by omega))
    have hq' : ∀ k, Z (Q k) := fun k => by
      by_cases w : k < n
      · exact hq k w
      · rw [hQ]
        show Z (evG g (n - k) _ _)
        rw [show n - k = 0 by omega]
        exact hi.1
    cases k with
    | zero =>
      have e : evG g (n + 1) F (r n) = F 0 + r n * Q 0 := by
        rw [hQ]
        show F 0 + r n * evG g n (fun k => F (k + 1)) (r n) = F 0 + r n * evG g (n - 0) (fun j => F (0 + 1 + j)) (r n)
        rw [Nat.sub_zero]
        congr 3
        funext j
        rw [show 0 + 1 + j = j + 1 by omega]
      rw [e] at ha
      exact hi.of (hi.sub ha (hi.2.2 _ (r n) (hq' 0))) (by grind)
    | succ k =>
      have e : Q k = F (k + 1) + r n * Q (k + 1) := by
        rw [hQ]
        show evG g (n - k) (fun j => F (k + 1 + j)) (r n) = F (k + 1) + r n * evG g (n - (k + 1)) (fun j => F (k + 1 + 1 + j)) (r n)
        rw [show n - k = (n - (k + 1)) + 1 by omega]
        show F (k + 1 + 0) + r n * evG g (n - (k + 1)) (fun j => F (k + 1 + (j + 1))) (r n) = _
        congr 3
        funext j
        rw [show k + 1 + (j + 1) = k + 1 + 1 + j by omega]
      exact hi.of (hi.sub (hq' k) (hi.2.2 _ (r n) (hq' (k + 1)))) (by rw [e]; grind)
/-- binomial numbers -/
def bin : Nat → Nat → Nat
  | 0, 0 => 1
  | 0, _ + 1 => 0
  | n + 1, 0 => bin n 0
  | n + 1, k + 1 => bin n (k + 1) + bin n k
theorem bin_0 : ∀ n, bin n 0 = 1
  | 0 => rfl
  | n + 1 => bin_0 n
theorem bin_hi : ∀ n k, n < k → bin n k = 0
  | 0, 0, h => by omega
  | 0, k + 1, _ => rfl
  | n + 1, 0, h => by omega
  | n + 1, k + 1, h => by rw [bin, bin_hi n (k + 1) (by omega), bin_hi n k (by omega)]
theorem bin_top : ∀ n, bin n n = 1
  | 0 => rfl
  | n + 1 => by rw [bin, bin_hi n (n + 1) (by omega), bin_top n]
theorem bin_abs : ∀ n k, (k + 1) * bin (n + 1) (k + 1) = (n + 1) * bin n k
  | 0, 0 => rfl
  | 0, k + 1 => by rw [bin_hi 1 (k + 1 + 1) (by omega), bin_hi 0 (k + 1) (by omega)]; simp
  | n + 1, 0 => by
    have h := bin_abs n 0
    have e : bin (n + 1 + 1) (0 + 1) = bin (n + 1) (0 + 1) + bin (n + 1) 0 := rfl
    rw [e, bin_0]
    rw [bin_0] at h
    omega
  | n + 1, k + 1 => by
    have h1 := bin_abs n (k + 1)
    have h2 := bin_abs n k
    have e : bin (n + 1 + 1) (k + 1 + 1) = bin (n + 1) (k + 1 + 1) + bin (n + 1) (k + 1) := rfl
    have e2 : bin (n + 1) (k + 1) = bin n (k + 1) + bin n k := rfl
    rw [e]
    generalize bin (n + 1) (k + 1 + 1) = X at *
    generalize bin (n + 1) (k + 1) = Y at *
    generalize bin n (k + 1) = U at *
    generalize bin n k = V at *
    subst e2
    grind
theorem bin_dvd {p k : Nat} (hp : Pr (p : Int)) (h0 : 0 < k) (hk : k < p) : p ∣ bin p k := by
  obtain ⟨n, rfl⟩ : ∃ n, p = n + 1 := ⟨p - 1, by omega⟩
  obtain ⟨j, rfl⟩ : ∃ j, k = j + 1 := ⟨k - 1, by omega⟩
  have h := bin_abs n j
  have h1 : ((n + 1 : Nat) : Int) ∣ ((j + 1 : Nat) : Int) * (bin (n + 1) (j + 1) : Nat) := by
    rw [← Int.natCast_mul, h]
    exact Int.natCast_dvd_natCast.mpr ⟨_, rfl⟩
  rcases hp.2 _ _ h1 with w | w
  · have := Nat.le_of_dvd (by omega) (Int.natCast_dvd_natCast.mp w)
    omega
  · exact Int.natCast_dvd_natCast.mp w
/-- sums of c k a^k b^(n-k) -/
def bsm {R : Type} (g : Lean.Grind.CommRing R) (c : Nat → R) (a b : R) : Nat → R
  | 0 => c 0
  | n + 1 => b * bsm g c a b n + c (n + 1) * a ^ (n + 1)
theorem bsm_add {R : Type} (g : Lean.Grind.CommRing R) (c d : Nat → R) (a b : R) : ∀ n, bsm g (fun k => c k + d k) a b n = bsm g c a b n + bsm g d a b n
  | 0 => rfl
  | n + 1 => by simp only [bsm]; rw [bsm_add g c d a b n]; generalize bsm g c a b n = x; generalize bsm g d a b n = y; generalize a ^ (n + 1) = z; grind
def shf {R : Type} (g : Lean.Grind.CommRing R) (c : Nat → R) : Nat → R
  | 0 => 0
  | k + 1 => c k
theorem bsm_shf {R : Type} (g : Lean.Grind.CommRing R) (c : Nat → R) (a b : R) : ∀ n, a * bsm g c a b n = bsm g (shf g c) a b (n + 1)
  | 0 => by
    show a * c 0 = b * 0 + c 0 * a ^ (0 + 1)
    rw [Lean.Grind.Semiring.pow_succ, Lean.Grind.Semiring.pow_zero]; grind
  | n + 1 => by
    have ih := bsm_shf g c a b n
    show a * (b * bsm g c a b n + c (n + 1) * a ^ (n + 1)) = b * bsm g (shf g c) a b (n + 1) + c (n + 1) * a ^ (n + 1 + 1)
    rw [← ih, Lean.Grind.Semiring.pow_succ a (n + 1)]
    generalize bsm g c a b n = x
    generalize a ^ (n + 1) = y
    grind
def nmG {R : Type} (g : Lean.Grind.CommRing R) : Nat → R
  | 0 => 0
  | m + 1 => nmG g m + 1
theorem nm_add {R : Type} (g : Lean.Grind.CommRing R) (m : Nat) : ∀ n, nmG g (m + n) = nmG g m + nmG g n
  | 0 => by show nmG g m = nmG g m + 0; grind
  | n + 1 => by
    show nmG g (m + n) + 1 = nmG g m + (nmG g n + 1)
    rw [nm_add g m n]; generalize nmG g m = x; generalize nmG g n = y; grind
theorem nm_mul {R : Type} (g : Lean.Grind.CommRing R) (m : Nat) : ∀ n, nmG g (m * n) = nmG g m * nmG g n
  | 0 => by show 0 = nmG g m * 0; grind
  | n + 1 => by
    rw [show m * (n + 1) = m * n + m from rfl, nm_add, nm_mul g m n]
    show _ = nmG g m * (nmG g n + 1)
    generalize nmG g m = x; generalize nmG g n = y; grind
def bcf {R : Type} (g : Lean.Grind.CommRing R) (n : Nat) : Nat → R := fun k => nmG g (bin n k)
theorem bcf_succ {R : Type} (g : Lean.Grind.CommRing R) (n : Nat) : bcf g (n + 1) = fun k => bcf g n k + shf g (bcf g n) k := funext fun k => by
  cases k with
  | zero => show nmG g (bin n 0) = nmG g (bin n 0) + 0; generalize nmG g (bin n 0) = x; grind
  | succ k => exact nm_add g (bin n (k + 1)) (bin n k)
/-- THE BINOMIAL LAW -/
theorem binom {R : Type} (g : Lean.Grind.CommRing R) (a b : R) : ∀ n, (a + b) ^ n = bsm g (bcf g n) a b n
  | 0 => by
    rw [Lean.Grind.Semiring.pow_zero]
    show (1 : R) = 0 + 1
    grind
  | n + 1 => by
    rw [Lean.Grind.Semiring.pow_succ, binom g a b n, bcf_succ, bsm_add, ← bsm_shf]
    have e : bsm g (bcf g n) a b (n + 1) = b * bsm g (bcf g n) a b n := by
      show b * bsm g (bcf g n) a b n + nmG g (bin n (n + 1)) * a ^ (n + 1) = _
      rw [bin_hi n (n + 1) (by omega)]
      show _ + 0 * _ = _
      generalize bsm g (bcf g n) a b n = x
      generalize a ^ (n + 1) = y
      grind
    rw [e]
    generalize bsm g (bcf g n) a b n = x
    grind
theorem Idl.nm {R : Type} {g : Lean.Grind.CommRing R} {Z : R → Prop} (h : Idl g Z) {p n : Nat} (hp : Z (nmG g p)) (hd : p ∣ n) : Z (nmG g n) := by
  obtain ⟨k, rfl⟩ := hd
  rw [nm_mul]
  exact h.of (h.2.2 _ (nmG g k) hp) (by generalize nmG g p = x; generalize nmG g k = y; grind)
/-- THE p-TH POWER OF A SUM -/
theorem frob {R : Type} {g : Lean.Grind.CommRing R} {Z : R → Prop} (h : Idl g Z) {p : Nat} (hp : Pr (p : Int)) (hz : Z (nmG g p)) (a b : R) : Z ((a + b) ^ p - (a ^ p + b ^ p)) := by
  have hp1 : 1 < p := by have := hp.1; omega
  have low : ∀ m, m < p → Z (bsm g (bcf g p) a b m - b ^ m) := fun m => by
    induction m with
    | zero =>
      intro _
      show Z (nmG g (bin p 0) - b ^ 0)
      rw [bin_0, Lean.Grind.Semiring.pow_zero]
      show Z ((0 : R) + 1 - 1)
      exact h.of h.1 (by grind)
    | succ m ih =>
      intro hm
      show Z (b * bsm g (bcf g p) a b m + nmG g (bin p (m + 1)) * a ^ (m + 1) - b ^ (m + 1))
      have h1 := ih (by omega)
      have h2 : Z (nmG g (bin p (m + 1))) := h.nm hz (bin_dvd hp (by omega) hm)
      have h3 := h.2.2 _ (a ^ (m + 1)) h2
      have h4 := h.2.2 _ b h1
      rw [Lean.Grind.Semiring.pow_succ b m]
      exact h.of (h.2.1 _ _ h4 h3) (by generalize bsm g (bcf g p) a b m = x; generalize nmG g (bin p (m + 1)) = y; generalize a ^ (m + 1) = z; generalize b ^ m = w; grind)
  obtain ⟨m, rfl⟩ : ∃ m, p = m + 1 := ⟨p - 1, by omega⟩
  rw [binom]
  show Z (b * bsm g (bcf g (m + 1)) a b m + nmG g (bin (m + 1) (m + 1)) * a ^ (m + 1) - (a ^ (m + 1) + b ^ (m + 1)))
  have h1 := h.2.2 _ b (low m (by omega))
  rw [bin_top, Lean.Grind.Semiring.pow_succ b m]
  refine h.of h1 ?_
  show _ = b * bsm g (bcf g (m + 1)) a b m + (0 + 1) * a ^ (m + 1) - (a ^ (m + 1) + b ^ m * b)
  generalize bsm g (bcf g (m + 1)) a b m = x
  generalize a ^ (m + 1) = z
  generalize b ^ m = w
  grind
theorem mul_powG {R : Type} (g : Lean.Grind.CommRing R) (a b : R) : ∀ n : Nat, (a * b) ^ n = a ^ n * b ^ n
  | 0 => by rw [Lean.Grind.Semiring.pow_zero, Lean.Grind.Semiring.pow_zero, Lean.Grind.Semiring.pow_zero]; grind
  | n + 1 => by
    rw [Lean.Grind.Semiring.pow_succ, Lean.Grind.Semiring.pow_succ, Lean.Grind.Semiring.pow_succ, mul_powG g a b n]
    generalize a ^ n = x; generalize b ^ n = y; grind
theorem pow_mulG {R : Type} (g : Lean.Grind.CommRing R) (a : R) (m : Nat) : ∀ n : Nat, a ^ (m * n) = (a ^ m) ^ n
  | 0 => by rw [Nat.mul_zero, Lean.Grind.Semiring.pow_zero, Lean.Grind.Semiring.pow_zero]
  | n + 1 => by rw [show m * (n + 1) = m * n + m from rfl, Lean.Grind.Semiring.pow_add, pow_mulG g a m n, Lean.Grind.Semiring.pow_succ]
/-- coefficients that their p-th powers leave -/
theorem frob_ev {R : Type} {g : Lean.Grind.CommRing R} {Z : R → Prop} (h : Idl g Z) {p : Nat} (hp : Pr (p : Int)) (hz : Z (nmG g p)) (a : R) : ∀ (n : Nat) (F : Nat → R), (∀ k, Z (F k ^ p - F k)) → Z (evG g n F a ^ p - evG g n F (a ^ p))
  | 0, F, _ => by
    show Z ((0 : R) ^ p - 0)
    have hp1 : 1 < p := by have := hp.1; omega
    obtain ⟨m, rfl⟩ : ∃ m, p = m + 1 := ⟨p - 1, by omega⟩
    rw [Lean.Grind.Semiring.pow_succ]
    exact h.of h.1 (by generalize (0 : R) ^ m = x; grind)
  | n + 1, F, hF => by
    have ih := frob_ev h hp hz a n (fun k => F (k + 1)) (fun k => hF (k + 1))
    show Z ((F 0 + a * evG g n (fun k => F (k + 1)) a) ^ p - (F 0 + a ^ p * evG g n (fun k => F (k + 1)) (a ^ p)))
    have h1 := frob h hp hz (F 0) (a * evG g n (fun k => F (k + 1)) a)
    rw [mul_powG] at h1
    have h2 := h.2.2 _ (a ^ p) ih
    have h3 := hF 0
    exact h.of (h.2.1 _ _ (h.2.1 _ _ h1 h2) h3) (by
      generalize evG g n (fun k => F (k + 1)) a ^ p = x
      generalize evG g n (fun k => F (k + 1)) (a ^ p) = y
      generalize (F 0 + a * evG g n (fun k => F (k + 1)) a) ^ p = z
      generalize a ^ p = w
      generalize F 0 ^ p = u
      grind)
/-- and again and again -/
theorem frob_it {R : Type} {g : Lean.Grind.CommRing R} {Z : R → Prop} (h : Idl g Z) {p : Nat} (hp : Pr (p : Int)) (hz : Z (nmG g p)) (a : R) (n : Nat) (F : Nat → R) (hF : ∀ k, Z (F k ^ p - F k)) : ∀ m : Nat, Z (evG g n F a ^ (p ^ m) - evG g n F (a ^ (p ^ m)))
  | 0 => by
    rw [Nat.pow_zero, Lean.Grind.Semiring.pow_one, Lean.Grind.Semiring.pow_one]
    exact h.refl _
  | m + 1 => by
    rw [Nat.pow_succ, pow_mulG, pow_mulG]
    exact h.trans (h.pow2 (frob_it h hp hz a n F hF m) p) (frob_ev h hp hz (a ^ (p ^ m)) n F hF)
theorem frob_sub {R : Type} {g : Lean.Grind.CommRing R} {Z : R → Prop} (h : Idl g Z) {p : Nat} (hp : Pr (p : Int)) (hz : Z (nmG g p)) (a b : R) : ∀ m : Nat, Z ((a - b) ^ (p ^ m) - (a ^ (p ^ m) - b ^ (p ^ m)))
  | 0 => by
    rw [Nat.pow_zero, Lean.Grind.Semiring.pow_one, Lean.Grind.Semiring.pow_one, Lean.Grind.Semiring.pow_one]
    exact h.refl _
  | m + 1 => by
    rw [Nat.pow_succ, pow_mulG, pow_mulG, pow_mulG]
    have h1 := h.pow2 (frob_sub h hp hz a b m) p
    have h2 := frob h hp hz (a ^ (p ^ m) - b ^ (p ^ m)) (b ^ (p ^ m))
    have e : a ^ p ^ m - b ^ p ^ m + b ^ p ^ m = a ^ p ^ m := by generalize a ^ p ^ m = x; generalize b ^ p ^ m = y; grind
    rw [e] at h2
    exact h.of (h.sub h1 h2) (by
      generalize ((a - b) ^ p ^ m) ^ p = x
      generalize (a ^ p ^ m - b ^ p ^ m) ^ p = y
      generalize (a ^ p ^ m) ^ p = z
      generalize (b ^ p ^ m) ^ p = w
      grind)
theorem ev_cg {R : Type} {g : Lean.Grind.CommRing R} {Z : R → Prop} (h : Idl g Z) {a b : R} (hab : Z (a - b)) : ∀ (n : Nat) (F : Nat → R), Z (evG g n F a - evG g n F b)
  | 0, _ => h.refl _
  | n + 1, F => h.add2 (h.refl (F 0)) (h.mul2 hab (ev_cg h hab n (fun k => F (k + 1))))
end
