/-! THE AUXILIARY SUM: its derivatives -/
section
def smG {R : Type} (g : Lean.Grind.CommRing R) (f : Nat → R) : Nat → R
  | 0 => 0
  | n + 1 => smG g f n + f n
theorem sm_add {R : Type} (g : Lean.Grind.CommRing R) (f h : Nat → R) : ∀ n, smG g (fun i => f i + h i) n = smG g f n + smG g h n
  | 0 => by simp only [smG]; grind
  | n + 1 => by simp only [smG]; rw [sm_add g f h n]; grind
theorem sm_sub {R : Type} (g : Lean.Grind.CommRing R) (f h : Nat → R) : ∀ n, smG g (fun i => f i - h i) n = smG g f n - smG g h n
  | 0 => by simp only [smG]; grind
  | n + 1 => by simp only [smG]; rw [sm_sub g f h n]; grind
theorem sm_mul {R : Type} (g : Lean.Grind.CommRing R) (c : R) (f : Nat → R) : ∀ n, smG g (fun i => c * f i) n = c * smG g f n
  | 0 => by simp only [smG]; grind
  | n + 1 => by simp only [smG]; rw [sm_mul g c f n]; grind
theorem sm_cg {R : Type} {g : Lean.Grind.CommRing R} {Z : R → Prop} (hi : Idl g Z) {f h : Nat → R} : ∀ n, (∀ i, i < n → Z (f i - h i)) → Z (smG g f n - smG g h n)
  | 0, _ => hi.of hi.1 (by simp only [smG]; grind)
  | n + 1, hh => by
    simp only [smG]
    exact hi.add2 (sm_cg hi n (fun i h1 => hh i (by omega))) (hh n (by omega))
theorem sm_idl {R : Type} {g : Lean.Grind.CommRing R} {Z : R → Prop} (hi : Idl g Z) {f : Nat → R} : ∀ n, (∀ i, i < n → Z (f i)) → Z (smG g f n)
  | 0, _ => hi.1
  | n + 1, hh => hi.2.1 _ _ (sm_idl hi n (fun i h1 => hh i (by omega))) (hh n (by omega))
theorem sm_d {R : Type} {g : Lean.Grind.CommRing R} {Z : R → Prop} {d : R → R} (hd : Dr g Z d) (f : Nat → R) : ∀ n, d (smG g f n) = smG g (fun i => d (f i)) n
  | 0 => hd.zero
  | n + 1 => by simp only [smG]; rw [hd.1, sm_d hd f n]
/-- a, times the power e of G, k times derived: without the power e - k -/
def tO {R : Type} (g : Lean.Grind.CommRing R) (d : R → R) (G : R) (e : Nat) : Nat → R → R
  | 0, a => a
  | k + 1, a => G * d (tO g d G e k a) + nmG g (e - k) * d G * tO g d G e k a
theorem tO_d {R : Type} {g : Lean.Grind.CommRing R} {Z : R → Prop} {d : R → R} (hd : Dr g Z d) (G a : R) {e k : Nat} (h : k < e) : d (G ^ (e - k) * tO g d G e k a) = G ^ (e - (k + 1)) * tO g d G e (k + 1) a := by
  obtain ⟨j, hj⟩ : ∃ j, e - k = j + 1 := ⟨e - k - 1, by omega⟩
  simp only [tO]
  rw [show e - (k + 1) = j by omega, hj, hd.2.1, hd.pow, Lean.Grind.Semiring.pow_succ]
  grind
theorem tO_sub {R : Type} {g : Lean.Grind.CommRing R} {Z : R → Prop} {d : R → R} (hd : Dr g Z d) (G : R) (e : Nat) (a b : R) : ∀ k, tO g d G e k (a - b) = tO g d G e k a - tO g d G e k b
  | 0 => rfl
  | k + 1 => by simp only [tO]; rw [tO_sub hd G e a b k, hd.sub]; grind
/-- the sum's k-th derivative -/
def hO {R : Type} (g : Lean.Grind.CommRing R) (d : R → R) (G X : R) (M c J : Nat) (a b : Nat → R) (k : Nat) : R := smG g (fun j => X ^ j * (G ^ (M - k) * tO g d G M k (a j) + G ^ (M + c - k) * tO g d G (M + c) k (b j))) J
theorem hO_d {R : Type} {g : Lean.Grind.CommRing R} {Z : R → Prop} (hi : Idl g Z) {d : R → R} (hd : Dr g Z d) {G X : R} (hX : Z (d X)) {M c J k : Nat} (a b : Nat → R) (hk : k < M) : Z (d (hO g d G X M c J a b k) - hO g d G X M c J a b (k + 1)) := by
  unfold hO
  rw [sm_d hd]
  refine sm_cg hi J (fun i _ => ?_)
  rw [hd.2.1, hd.1, tO_d hd G (a i) hk, tO_d hd G (b i) (show k < M + c by omega)]
  have h1 : Z (d (X ^ i)) := by
    cases i with
    | zero => rw [Lean.Grind.Semiring.pow_zero, hd.one]; exact hi.1
    | succ i => rw [hd.pow]; exact hi.2.2 _ _ hX
  refine hi.of (hi.2.2 _ (G ^ (M - k) * tO g d G M k (a i) + G ^ (M + c - k) * tO g d G (M + c) k (b i)) h1) ?_
  grind
/-- where X is x and the power c of G is 1 -/
def cO {R : Type} (g : Lean.Grind.CommRing R) (d : R → R) (G x : R) (M c J : Nat) (a b : Nat → R) (k : Nat) : R := smG g (fun j => x ^ j * (tO g d G M k (a j) + tO g d G (M + c) k (b j))) J
theorem hO_at {R : Type} {g : Lean.Grind.CommRing R} {Z : R → Prop} (hi : Idl g Z) {d : R → R} {G X x : R} (hX : Z (X - x)) {M c J k : Nat} (hG : Z (G ^ c - 1)) (a b : Nat → R) (hk : k ≤ M) (hC : Z (cO g d G x M c J a b k)) : Z (hO g d G X M c J a b k) := by
  unfold hO
  have h1 : Z (G ^ (M - k) * cO g d G x M c J a b k) := hi.2.2 _ _ hC
  refine hi.of_sub (b := G ^ (M - k) * cO g d G x M c J a b k) ?_ h1
  unfold cO
  rw [← sm_mul g (G ^ (M - k))]
  refine sm_cg hi J (fun i _ => ?_)
  have h2 := hi.pow2 hX i
  rw [show M + c - k = (M - k) + c by omega, Lean.Grind.Semiring.pow_add]
  generalize tO g d G M k (a i) = u
  generalize tO g d G (M + c) k (b i) = v
  generalize X ^ i = Y at *
  generalize x ^ i = y at *
  generalize G ^ (M - k) = w
  generalize G ^ c = s at *
  refine hi.of (hi.2.1 _ _ (hi.2.2 _ (w * u + w * s * v) h2) (hi.2.2 _ (y * w * v) hG)) ?_
  grind
theorem sm_shift {R : Type} (g : Lean.Grind.CommRing R) (f : Nat → R) (X : R) : ∀ (n i : Nat), smG g (fun j => X ^ (i + j) * f j) n = X ^ i * smG g (fun j => X ^ j * f j) n
  | 0, i => by simp only [smG]; grind
  | n + 1, i => by simp only [smG]; rw [sm_shift g f X n i, Lean.Grind.Semiring.pow_add]; grind
theorem sm_split {R : Type} (g : Lean.Grind.CommRing R) (f : Nat → R) (m : Nat) : ∀ n, smG g f (m + n) = smG g f m + smG g (fun j => f (m + j)) n
  | 0 => by simp only [smG, Nat.add_zero]; grind
  | n + 1 => by rw [← Nat.add_assoc]; simp only [smG]; rw [sm_split g f m n]; grind
/-- the lowest term -/
theorem sm_low {R : Type} {g : Lean.Grind.CommRing R} {Z : R → Prop} (hp : Prm g Z) {X : R} (hX : ¬ Z X) {f : Nat → R} {J i : Nat} (hi : i < J) (h0 : ∀ j, j < i → Z (f j)) (h : Z (smG g (fun j => X ^ j * f j) J)) : ∃ w, Z (f i - X * w) := by
  have hid := hp.1
  obtain ⟨n, rfl⟩ : ∃ n, J = i + (1 + n) := ⟨J - i - 1, by omega⟩
  rw [sm_split] at h
  have h1 : Z (smG g (fun j => X ^ j * f j) i) := sm_idl hid i (fun j hj => hid.2.2 _ _ (h0 j hj))
  have h2 : Z (smG g (fun j => X ^ (i + j) * f (i + j)) (1 + n)) := hid.of (hid.sub h h1) (by grind)
  rw [sm_shift g (fun j => f (i + j)) X] at h2
  have h3 := hp.powl hX i h2
  rw [sm_split] at h3
  have e1 : smG g (fun j => X ^ j * f (i + j)) 1 = f i := by
    simp only [smG, Nat.add_zero]
    rw [Lean.Grind.Semiring.pow_zero]; grind
  rw [e1, sm_shift g (fun j => f (i + (1 + j))) X] at h3
  refine ⟨- smG g (fun j => X ^ j * f (i + (1 + j))) n, hid.of h3 ?_⟩
  have e2 : X ^ 1 = X := by rw [Lean.Grind.Semiring.pow_succ, Lean.Grind.Semiring.pow_zero]; grind
  rw [e2]; grind
/-- with the power c of G twice and once more -/
theorem low_sq {R : Type} {g : Lean.Grind.CommRing R} {Z : R → Prop} (hid : Idl g Z) {X G G0 a b w v : R} {c p : Nat} (hc : 2 * c + 1 = p) (h : Z (a + b * G ^ c - X * w)) (hG : Z (G ^ p - (G0 + X * v))) : ∃ s, Z (a * a * G - b * b * G0 - X * s) := by
  have e : G ^ p = G ^ c * G ^ c * G := by
    rw [← hc, show 2 * c + 1 = c + c + 1 by omega, Lean.Grind.Semiring.pow_succ, Lean.Grind.Semiring.pow_add]
  rw [e] at hG
  generalize G ^ c = s at *
  refine ⟨w * (a - b * s) * G + b * b * v, ?_⟩
  have h1 := hid.2.2 _ ((a - b * s) * G) h
  have h2 := hid.2.2 _ (b * b) hG
  refine hid.of (hid.2.1 _ _ h1 h2) ?_
  grind
end
