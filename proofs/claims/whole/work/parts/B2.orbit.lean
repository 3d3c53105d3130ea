/-! THE FIELD with p to the D elements: x to the p to the D is x, and no earlier power so -/
section
def xP : PF := ⟨px (pk0 1), (Pf.k 1).x⟩
def kP (c : Int) : PF := ⟨pk0 c, Pf.k c⟩
def mkP (f : PP) (D : Nat) (h : dl f D) : PF := ⟨f, D, h⟩
theorem pm_xl (g : PP) : pm (px (pk0 1)) g = px g := funext fun k => by
  rw [pm_x]
  cases k with
  | zero => rfl
  | succ k => show pm (pk0 1) g k = g k; rw [pm_1l]
theorem ev_x : ∀ (n : Nat) (f : PP), dl f n → (evG pfR n (fun k => kP (f k)) xP).1 = f
  | 0, f, h => funext fun k => by
    show pk0 ((0 : Nat) : Int) k = f k
    rw [h k (Nat.zero_le k)]
    cases k <;> rfl
  | n + 1, f, h => by
    have ih := ev_x n (pt f) (pt_dl h)
    show pa (pk0 (f 0)) (pm (px (pk0 1)) (evG pfR n (fun k => kP (pt f k)) xP).1) = f
    rw [ih, pm_xl]
    funext k
    cases k with
    | zero => show f 0 + 0 = f 0; omega
    | succ k => show 0 + f (k + 1) = f (k + 1); omega
theorem kP_pow (c : Int) : ∀ n : Nat, (pw (pk0 c) n) = pk0 (c ^ n)
  | 0 => by rw [Int.pow_zero]; rfl
  | n + 1 => by
    rw [pw, kP_pow c n, Int.pow_succ]
    funext k
    rw [pm_c0]
    cases k with
    | zero => show c * c ^ n = c ^ n * c; rw [Int.mul_comm]
    | succ k => show c * 0 = 0; omega
/-- the ring's words -/
theorem pf_sub (a b : PF) : (letI := pfR; a - b).1 = pa a.1 (pc (-1) b.1) := rfl
theorem kP_fix {p : Nat} (hp : Pr (p : Int)) {h : PP} (c : Int) : ZP p h (letI := pfR; kP c ^ p - kP c) := dmP.zero (fun k => by
  show (p : Int) ∣ pw (pk0 c) p k + -1 * pk0 c k
  rw [kP_pow]
  cases k with
  | zero =>
    show (p : Int) ∣ c ^ p + -1 * c
    have := flt hp c
    rw [show c ^ p + -1 * c = c ^ p - c by omega]; exact this
  | succ k => show (p : Int) ∣ 0 + -1 * 0; exact Int.dvd_zero _)
/-- residues that differ by a multiple of h are the same -/
theorem res_eq {p : Nat} (hp : Pr (p : Int)) {h u v : PP} {D : Nat} (hh : md p h D) (hu : dl u D) (hv : dl v D) (bu : ∀ k, 0 ≤ u k ∧ u k < p) (bv : ∀ k, 0 ≤ v k ∧ v k < p) (hd : dmP p h (pa u (pc (-1) v))) : u = v := by
  have ha : al p (pa u (pc (-1) v)) := Classical.byContradiction fun w => by
    obtain ⟨d, hd1, hd2⟩ := md_ex D (fun k hk => by show u k + -1 * v k = 0; rw [hu k hk, hv k hk]; rfl) w
    have := hd.le hp hh hd2
    omega
  funext k
  have h1 : (p : Int) ∣ u k + -1 * v k := ha k
  have h2 := bu k
  have h3 := bv k
  obtain ⟨c, hc⟩ := h1
  have h4 : c = 0 := by
    rcases Int.lt_trichotomy c 0 with w | w | w
    · have : (p : Int) * c ≤ p * (-1) := Int.mul_le_mul_of_nonneg_left (by omega) (by omega)
      omega
    · exact w
    · have : (p : Int) * 1 ≤ p * c := Int.mul_le_mul_of_nonneg_left (by omega) (by omega)
      omega
  rw [h4] at hc
  omega
theorem ev_add {R : Type} (g : Lean.Grind.CommRing R) (a : R) : ∀ (n : Nat) (F G : Nat → R), evG g n (fun k => F k + G k) a = evG g n F a + evG g n G a
  | 0, F, G => by show (0 : R) = 0 + 0; grind
  | n + 1, F, G => by
    show F 0 + G 0 + a * evG g n (fun k => F (k + 1) + G (k + 1)) a = F 0 + a * evG g n (fun k => F (k + 1)) a + (G 0 + a * evG g n (fun k => G (k + 1)) a)
    rw [ev_add g a n (fun k => F (k + 1)) (fun k => G (k + 1))]
    generalize evG g n (fun k => F (k + 1)) a = x
    generalize evG g n (fun k => G (k + 1)) a = y
    grind
theorem ev_zero {R : Type} (g : Lean.Grind.CommRing R) (a : R) : ∀ (n : Nat), evG g n (fun _ => 0) a = 0
  | 0 => rfl
  | n + 1 => by
    show 0 + a * evG g n (fun _ => 0) a = 0
    rw [ev_zero g a n]; grind
theorem ev_one {R : Type} (g : Lean.Grind.CommRing R) (a c : R) : ∀ (n i : Nat), i < n → evG g n (fun k => if k = i then c else 0) a = c * a ^ i
  | 0, i, h => absurd h (Nat.not_lt_zero i)
  | n + 1, 0, _ => by
    have e : (fun k => if k + 1 = 0 then c else (0 : R)) = fun _ => 0 := funext fun k => if_neg (by omega)
    show (if 0 = 0 then c else 0) + a * evG g n (fun k => if k + 1 = 0 then c else 0) a = _
    rw [e, ev_zero, if_pos rfl, Lean.Grind.Semiring.pow_zero]; grind
  | n + 1, i + 1, h => by
    have e : (fun k => if k + 1 = i + 1 then c else (0 : R)) = fun k => if k = i then c else 0 := funext fun k => by
      by_cases w : k = i
      · rw [if_pos w, if_pos (by omega)]
      · rw [if_neg w, if_neg (by omega)]
    show (if 0 = i + 1 then c else 0) + a * evG g n (fun k => if k + 1 = i + 1 then c else 0) a = _
    rw [e, ev_one g a c n i (by omega), if_neg (by omega), Lean.Grind.Semiring.pow_succ]
    generalize a ^ i = x
    grind
/-- y to the N minus y -/
def frF {R : Type} (_ : Lean.Grind.CommRing R) (N : Nat) : Nat → R := fun k => (if k = N then (1 : R) else 0) + (if k = 1 then (-1 : R) else 0)
theorem frF_top {R : Type} (g : Lean.Grind.CommRing R) {N : Nat} (h : 1 < N) : frF g N N = 1 := by
  unfold frF
  rw [if_pos rfl, if_neg (by omega)]
  grind
theorem ev_fr {R : Type} (g : Lean.Grind.CommRing R) (a : R) {N : Nat} (h : 1 < N) : evG g (N + 1) (frF g N) a = a ^ N - a := by
  unfold frF
  rw [ev_add, ev_one _ _ _ _ _ (by omega), ev_one _ _ _ _ _ (by omega), Lean.Grind.Semiring.pow_one]
  generalize a ^ N = x
  grind
theorem dig_eq {p : Nat} (hp : 1 < p) : ∀ (D u v : Nat), u < p ^ D → v < p ^ D → (∀ k, k < D → u / p ^ k % p = v / p ^ k % p) → u = v
  | 0, u, v, hu, hv, _ => by rw [Nat.pow_zero] at hu hv; omega
  | D + 1, u, v, hu, hv, h => by
    have h0 := h 0 (by omega)
    rw [Nat.pow_zero, Nat.div_one, Nat.div_one] at h0
    have h1 := dig_eq hp D (u / p) (v / p) (by rw [Nat.div_lt_iff_lt_mul (by omega), ← Nat.pow_succ]; exact hu) (by rw [Nat.div_lt_iff_lt_mul (by omega), ← Nat.pow_succ]; exact hv) (fun k hk => by
      have := h (k + 1) (by omega)
      rw [Nat.pow_succ, Nat.mul_comm, ← Nat.div_div_eq_div_mul, ← Nat.div_div_eq_div_mul] at this
      exact this)
    have e1 := Nat.div_add_mod u p
    have e2 := Nat.div_add_mod v p
    rw [← e1, ← e2, h1, h0]
/-- the number whose digits are the coefficients -/
def dgP (p D u : Nat) : PP := fun k => if k < D then ((u / p ^ k % p : Nat) : Int) else 0
theorem dgP_dl (p D u : Nat) : dl (dgP p D u) D := fun k hk => if_neg (by omega)
theorem dgP_bd {p : Nat} (hp : 1 < p) (D u : Nat) : ∀ k, 0 ≤ dgP p D u k ∧ dgP p D u k < p := fun k => by
  unfold dgP
  have := Nat.mod_lt (u / p ^ k) (show 0 < p by omega)
  split <;> omega
theorem orbit_ge {p : Nat} (hp : Pr (p : Int)) {h : PP} {D n : Nat} (hh : IrM p h D) (hn : 0 < n) (hx : ZP p h (letI := pfR; xP ^ (p ^ n) - xP)) : D ≤ n := by
  have hp1 : 1 < p := by have := hp.1; omega
  rcases Nat.lt_or_ge n D with w | w
  · exfalso
    have hpn : p ≤ p ^ n := by
      have := Nat.pow_le_pow_right (show 0 < p by omega) hn
      rw [Nat.pow_one] at this; exact this
    have hpD : p ^ n + 1 ≤ p ^ D := by
      have h1 : p ^ (n + 1) ≤ p ^ D := Nat.pow_le_pow_right (by omega) w
      rw [Nat.pow_succ] at h1
      have h2 : p ^ n * 2 ≤ p ^ n * p := Nat.mul_le_mul_left _ hp1
      omega
    have hi : Idl pfR (ZP p h) := idl_p
    have hP := prm_p hp hh
    let gg := pfR
    have key := rc hP (p ^ n + 1) (frF pfR (p ^ n)) (fun u => mkP (dgP p D u) D (dgP_dl p D u)) (fun u hu => ?_) (fun i j hij hj hz => ?_) (p ^ n) (by omega)
    · exact hP.2.2 (hi.of key (frF_top pfR (by omega)))
    · refine hi.of ?_ (ev_fr pfR _ (show 1 < p ^ n by omega)).symm
      have e1 : mkP (dgP p D u) D (dgP_dl p D u) = evG pfR D (fun k => kP (dgP p D u k)) xP := Subtype.ext (ev_x D _ (dgP_dl p D u)).symm
      rw [e1]
      have h1 := frob_it hi hp zp_p xP D (fun k => kP (dgP p D u k)) (fun k => kP_fix hp _) n
      have h2 := ev_cg hi hx D (fun k => kP (dgP p D u k))
      exact hi.trans h1 h2
    · have := res_eq hp hh.2.1 (dgP_dl p D i) (dgP_dl p D j) (dgP_bd hp1 D i) (dgP_bd hp1 D j) hz
      have := dig_eq hp1 D i j (by omega) (by omega) (fun k hk => by
        have h1 := congrFun this k
        unfold dgP at h1
        rw [if_pos hk, if_pos hk] at h1
        omega)
      omega
  · exact w
theorem res_ex {p : Nat} (hp : Pr (p : Int)) {h : PP} {D : Nat} (hh : md p h D) (f : PF) : ∃ r : PP, dl r D ∧ (∀ k, 0 ≤ r k ∧ r k < p) ∧ dmP p h (pa f.1 (pc (-1) r)) := by
  have hp1 := hp.1
  obtain ⟨f, n, hn⟩ := f
  obtain ⟨q, r, hq, hr, e⟩ := pdm hp hh n f hn
  refine ⟨fun k => r k % p, fun k hk => by show r k % p = 0; rw [hr k hk]; rfl, fun k => ⟨Int.emod_nonneg _ (by omega), Int.emod_lt_of_pos _ (by omega)⟩, q, hq, fun k => ?_⟩
  show (p : Int) ∣ f k + -1 * (r k % p) - pm q h k
  have h1 : (p : Int) ∣ f k - (pm q h k + r k) := e k
  have h2 : (p : Int) ∣ r k - r k % p := ⟨r k / p, by have := Int.mul_ediv_add_emod (r k) p; omega⟩
  have := Int.dvd_add h1 h2
  rw [show f k + -1 * (r k % p) - pm q h k = f k - (pm q h k + r k) + (r k - r k % p) by omega]
  exact this
/-- two powers that meet -/
theorem orbit_back {p : Nat} (hp : Pr (p : Int)) {h : PP} {D i j : Nat} (hh : IrM p h D) (hij : i < j) (hz : ZP p h (letI := pfR; xP ^ (p ^ i) - xP ^ (p ^ j))) : ZP p h (letI := pfR; xP ^ (p ^ (j - i)) - xP) := by
  have hi : Idl pfR (ZP p h) := idl_p
  have hP := prm_p hp hh
  let gg := pfR
  have e : xP ^ (p ^ j) = (xP ^ (p ^ (j - i))) ^ (p ^ i) := by rw [← pow_mulG, ← Nat.pow_add, show j - i + i = j by omega]
  have h1 := frob_sub hi hp zp_p (xP ^ (p ^ (j - i))) xP i
  have h2 : ZP p h (xP ^ (p ^ j) - xP ^ (p ^ i)) := hi.sym hz
  rw [e] at h2
  have h3 := hi.2.1 _ _ h1 h2
  refine hP.pow (p ^ i) (hi.of h3 ?_)
  generalize (xP ^ p ^ (j - i)) ^ p ^ i = y
  generalize xP ^ p ^ i = z
  generalize (xP ^ p ^ (j - i) - xP) ^ p ^ i = u
  grind
/-- x TO THE p TO THE D -/
theorem orbit {p : Nat} (hp : Pr (p : Int)) {h : PP} {D : Nat} (hh : IrM p h D) : ZP p h (letI := pfR; xP ^ (p ^ D) - xP) := by
  have hp1 : 1 < p := by have := hp.1; omega
  have hi : Idl pfR (ZP p h) := idl_p
  have hP := prm_p hp hh
  let gg := pfR
  have hex : ∀ i : Nat, ∃ c : Nat, c < p ^ D ∧ ∃ r : PP, dl r D ∧ (∀ k, 0 ≤ r k ∧ r k < p) ∧ dmP p h (pa (xP ^ (p ^ i)).1 (pc (-1) r)) ∧ c = enc p (fun k => (r k).toNat) D := fun i => by
    obtain ⟨r, h1, h2, h3⟩ := res_ex hp hh.2.1 (xP ^ (p ^ i))
    exact ⟨_, enc_lt D (fun k _ => by have := h2 k; omega), r, h1, h2, h3, rfl⟩
  obtain ⟨i, j, hij, -, he⟩ := php (p ^ D) (p ^ D + 1) (fun i => Classical.choose (hex i)) (fun i _ => (Classical.choose_spec (hex i)).1) (by omega)
  have hk : 0 < j - i ∧ ZP p h (xP ^ (p ^ (j - i)) - xP) := by
    refine ⟨by omega, orbit_back hp hh hij ?_⟩
    obtain ⟨r1, a1, a2, a3, a4⟩ := (Classical.choose_spec (hex i)).2
    obtain ⟨r2, b1, b2, b3, b4⟩ := (Classical.choose_spec (hex j)).2
    have he' : Classical.choose (hex i) = Classical.choose (hex j) := he
    rw [a4, b4] at he'
    have h1 := enc_inj D (fun k _ => by have := a2 k; omega) (fun k _ => by have := b2 k; omega) he'
    have h2 : r1 = r2 := funext fun k => by
      by_cases w : k < D
      · have := h1 k w; have := a2 k; have := b2 k; omega
      · rw [a1 k (by omega), b1 k (by omega)]
    subst h2
    have a3' : ZP p h (xP ^ (p ^ i) - mkP r1 D a1) := a3
    have b3' : ZP p h (xP ^ (p ^ j) - mkP r1 D a1) := b3
    exact hi.trans a3' (hi.sym b3')
  obtain ⟨k0, ⟨hk0, hz0⟩, hmin⟩ := least (P := fun k => 0 < k ∧ ZP p h (xP ^ (p ^ k) - xP)) (j - i) hk
  have hge := orbit_ge hp hh hk0 hz0
  have hle : k0 ≤ D := by
    rcases Nat.lt_or_ge D k0 with w | w
    · exfalso
      have hdl : dl (ct h (D + 1)) (D + 1) := ct_dl h (D + 1)
      have key := rc hP (D + 1) (fun k => kP (ct h (D + 1) k)) (fun i => xP ^ (p ^ i)) (fun i hi' => ?_) (fun i j hij hj hz => hmin (j - i) (by omega) ⟨by omega, orbit_back hp hh hij hz⟩) D (by omega)
      · have h1 : dmP p h (pk0 (ct h (D + 1) D)) := key
        rw [ct_lt (by omega)] at h1
        have h2 : md p (pk0 (h D)) 0 := ⟨hh.2.1.1, fun k hk => by cases k with
          | zero => omega
          | succ k => exact Int.dvd_zero _⟩
        have := h1.le hp hh.2.1 h2
        have := hh.2.2.1
        omega
      · have h1 := frob_it hi hp zp_p xP (D + 1) (fun k => kP (ct h (D + 1) k)) (fun k => kP_fix hp _) i
        have h2 : ZP p h (evG pfR (D + 1) (fun k => kP (ct h (D + 1) k)) xP) := by
          show dmP p h (evG pfR (D + 1) (fun k => kP (ct h (D + 1) k)) xP).1
          rw [ev_x (D + 1) _ hdl]
          exact (dmP.refl _ h).of_cg (hh.2.1.cut (by omega)).symm
        have h3 : ZP p h (evG pfR (D + 1) (fun k => kP (ct h (D + 1) k)) xP ^ (p ^ i)) := by
          obtain ⟨m, hm⟩ : ∃ m, p ^ i = m + 1 := ⟨p ^ i - 1, by have := Nat.pow_pos (n := i) (show 0 < p by omega); omega⟩
          rw [hm, Lean.Grind.Semiring.pow_succ]
          exact hi.2.2 _ _ h2
        exact hi.of (hi.sub h3 h1) (by
          generalize evG pfR (D + 1) (fun k => kP (ct h (D + 1) k)) xP ^ (p ^ i) = y
          grind)
    · exact w
  have : k0 = D := by omega
  rw [← this]; exact hz0
end
