/-! THE NORM of x + s modulo an irreducible polynomial -/
section
/-- the coefficients of the product of T - r k -/
def pcf {R : Type} (g : Lean.Grind.CommRing R) (r : Nat → R) : Nat → Nat → R
  | 0 => fun k => if k = 0 then 1 else 0
  | n + 1 => fun k => (if k = 0 then 0 else pcf g r n (k - 1)) - r n * pcf g r n k
theorem pcf_hi {R : Type} (g : Lean.Grind.CommRing R) (r : Nat → R) : ∀ n k, n < k → pcf g r n k = 0
  | 0, k, h => by simp only [pcf]; rw [if_neg (by omega)]
  | n + 1, k, h => by
    simp only [pcf]
    rw [if_neg (by omega), pcf_hi g r n (k - 1) (by omega), pcf_hi g r n k (by omega)]
    grind
theorem pcf_top {R : Type} (g : Lean.Grind.CommRing R) (r : Nat → R) : ∀ n, pcf g r n n = 1
  | 0 => by simp [pcf]
  | n + 1 => by
    simp only [pcf]
    rw [if_neg (by omega), Nat.add_sub_cancel, pcf_top g r n, pcf_hi g r n (n + 1) (by omega)]
    grind
theorem ev_more {R : Type} (g : Lean.Grind.CommRing R) (a : R) : ∀ (n : Nat) (F : Nat → R), F n = 0 → evG g (n + 1) F a = evG g n F a
  | 0, F, h => by simp only [evG]; rw [h]; grind
  | n + 1, F, h => by
    have := ev_more g a n (fun k => F (k + 1)) h
    have e : evG g (n + 1 + 1) F a = F 0 + a * evG g (n + 1) (fun k => F (k + 1)) a := rfl
    rw [e, this]
    rfl
theorem ev_c {R : Type} (g : Lean.Grind.CommRing R) (a c : R) : ∀ (n : Nat) (F : Nat → R), evG g n (fun k => c * F k) a = c * evG g n F a
  | 0, F => by simp only [evG]; grind
  | n + 1, F => by
    have := ev_c g a c n (fun k => F (k + 1))
    simp only [evG]
    rw [this]; grind
theorem ev_sub {R : Type} (g : Lean.Grind.CommRing R) (a : R) : ∀ (n : Nat) (F G : Nat → R), evG g n (fun k => F k - G k) a = evG g n F a - evG g n G a
  | 0, F, G => by simp only [evG]; grind
  | n + 1, F, G => by
    have := ev_sub g a n (fun k => F (k + 1)) (fun k => G (k + 1))
    simp only [evG]
    rw [this]; grind
theorem pcf_ev {R : Type} (g : Lean.Grind.CommRing R) (r : Nat → R) (T : R) : ∀ n, evG g (n + 1) (pcf g r n) T = pdG g (fun k => T - r k) n
  | 0 => by simp only [evG, pcf, pdG]; rw [if_true]; grind
  | n + 1 => by
    have ih := pcf_ev g r T n
    simp only [pdG]
    rw [← ih]
    have e1 : pcf g r (n + 1) = fun k => (if k = 0 then 0 else pcf g r n (k - 1)) - r n * pcf g r n k := rfl
    rw [e1, ev_sub, ev_c, ev_more g T (n + 1) (pcf g r n) (pcf_hi g r n (n + 1) (by omega))]
    have e2 : evG g (n + 1 + 1) (fun k => if k = 0 then 0 else pcf g r n (k - 1)) T = 0 + T * evG g (n + 1) (fun k => if k + 1 = 0 then 0 else pcf g r n (k + 1 - 1)) T := rfl
    have e3 : (fun k => if k + 1 = 0 then (0 : R) else pcf g r n (k + 1 - 1)) = pcf g r n := funext fun k => by rw [if_neg (by omega), Nat.add_sub_cancel]
    rw [e2, e3]
    grind
/-- two of one degree with the lead 1 and as many common roots are the same -/
theorem same_roots {R : Type} {g : Lean.Grind.CommRing R} {Z : R → Prop} (hp : Prm g Z) {d : Nat} {F r : Nat → R} (hF : F d = 1) (hr : ∀ i, i < d → Z (evG g (d + 1) F (r i))) (hd : ∀ i j, i < j → j < d → ¬ Z (r i - r j)) (T : R) : Z (evG g (d + 1) F T - pdG g (fun k => T - r k) d) := by
  have hi := hp.1
  have e : ∀ T, evG g (d + 1) F T - pdG g (fun k => T - r k) d = evG g d (fun k => F k - pcf g r d k) T := fun T => by
    rw [← pcf_ev, ← ev_sub, ev_more]
    rw [hF, pcf_top]; grind
  have hz : ∀ n, n ≤ d → ∀ i, i < n → Z (pdG g (fun k => r i - r k) n) := by
    intro n
    induction n with
    | zero => intro _ i h; omega
    | succ n ih =>
      intro hn i hi'
      simp only [pdG]
      by_cases q : i = n
      · rw [q]
        exact hi.of (hi.2.2 _ (pdG g (fun k => r n - r k) n) (hi.refl (r n))) rfl
      · have := ih (by omega) i (by omega)
        exact hi.of (hi.2.2 _ (r i - r n) this) (by grind)
  have h1 := rc hp d (fun k => F k - pcf g r d k) r (fun i h => by
    rw [← e]
    exact hi.sub (hr i h) (hz d (Nat.le_refl _) i h)) hd
  rw [e]
  have h2 : ∀ (n : Nat) (D : Nat → R), (∀ k, k < n → Z (D k)) → Z (evG g n D T) := by
    intro n
    induction n with
    | zero => intro D _; exact hi.1
    | succ n ih =>
      intro D hD
      simp only [evG]
      exact hi.2.1 _ _ (hD 0 (by omega)) (hi.2.2 _ T (ih _ (fun k hk => hD (k + 1) (by omega))))
  exact h2 d _ h1
theorem pd_neg {R : Type} (g : Lean.Grind.CommRing R) (f : Nat → R) : ∀ n, pdG g (fun k => -(f k)) n = (-1) ^ n * pdG g f n
  | 0 => by simp only [pdG]; rw [Lean.Grind.Semiring.pow_zero]; grind
  | n + 1 => by
    simp only [pdG]
    rw [pd_neg g f n, Lean.Grind.Semiring.pow_succ]; grind
theorem kP_pw (c : Int) (n : Nat) : (letI := pfR; kP c ^ n) = kP (c ^ n) := Subtype.ext (kP_pow c n)
/-- the norm -/
theorem norm_at {p d : Nat} (hp : Pr (p : Int)) {f : PF} (hf : IrM p f.1 d) (hd : dl f.1 (d + 1)) (h1 : f.1 d = 1) (s : Int) : ZP p f.1 (letI := pfR; pdG pfR (fun k => xP ^ (p ^ k) + kP s) d - kP ((-1) ^ d * vI (d + 1) f.1 (-s))) := by
  have hq := prm_p hp hf
  have hi := hq.1
  have hzp : ZP p f.1 (nmG pfR p) := zp_p
  have h2 := same_roots hq (d := d) (F := fun k => kP (f.1 k)) (r := fun k => letI := pfR; xP ^ (p ^ k)) (by show kP (f.1 d) = _; rw [h1]; rfl) (fun i _ => by
    have h3 := frob_it hi hp hzp xP (d + 1) (fun k => kP (f.1 k)) (fun k => kP_fix hp _) i
    rw [ev_xP hd] at h3
    have h4 : ZP p f.1 f := dmP.refl _ _
    have h5 : ZP p f.1 (letI := pfR; f ^ (p ^ i)) := by
      obtain ⟨n, hn⟩ : ∃ n, p ^ i = n + 1 := ⟨p ^ i - 1, by have : 0 < p ^ i := Nat.pow_pos (by have := hp.1; omega); omega⟩
      letI := pfR
      rw [hn, Lean.Grind.Semiring.pow_succ]
      exact hi.2.2 _ _ h4
    exact hi.of (hi.sub h5 h3) (by letI := pfR; grind)) (fun i j hij hj w => by
    have := orbit_ge hp hf (by omega) (orbit_back hp hf hij w)
    omega) (kP (-s))
  rw [ev_kP] at h2
  have e1 : (fun k => letI := pfR; kP (-s) - xP ^ (p ^ k)) = (fun k => letI := pfR; -(xP ^ (p ^ k) + kP s)) := funext fun k => by
    have hk : kP (-s) = (letI := pfR; -kP s) := Subtype.ext (funext fun k => by
      show pk0 (-s) k = -1 * pk0 s k
      cases k <;> simp [pk0])
    letI := pfR
    rw [hk]; grind
  rw [e1, pd_neg] at h2
  have e2 : (letI := pfR; (-1 : PF) ^ d) = kP ((-1) ^ d) := by
    rw [← kP_pw]
    have : (letI := pfR; (-1 : PF)) = kP (-1) := Subtype.ext (funext fun k => by
      show -1 * pk0 ((1 : Nat) : Int) k = pk0 (-1) k
      cases k <;> simp [pk0])
    rw [this]
  have e3 : (letI := pfR; kP ((-1) ^ d) * kP ((-1) ^ d)) = (letI := pfR; 1) := by
    rw [kP_mul]
    have : ((-1 : Int) ^ d) * (-1) ^ d = 1 := by
      rw [← Int.mul_pow, show (-1 : Int) * -1 = 1 from rfl, Int.one_pow]
    rw [this]; rfl
  rw [e2] at h2
  have h3 := hi.2.2 _ (kP ((-1) ^ d)) (hi.sym h2)
  rw [← kP_mul]
  refine hi.of h3 ?_
  letI := pfR
  generalize pdG pfR (fun k => xP ^ (p ^ k) + kP s) d = y at *
  generalize kP ((-1) ^ d) = z at *
  generalize kP (vI (d + 1) f.1 (-s)) = w at *
  have e4 : z * (z * y - w) = (z * z) * y - z * w := by grind
  rw [e4, e3]; grind
end
