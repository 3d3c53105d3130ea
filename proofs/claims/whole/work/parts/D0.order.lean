/-! DERIVATIONS in a ring with a prime ideal: orders of vanishing -/
section
def Dr {R : Type} (_ : Lean.Grind.CommRing R) (Z : R → Prop) (d : R → R) : Prop := (∀ a b, d (a + b) = d a + d b) ∧ (∀ a b, d (a * b) = a * d b + b * d a) ∧ ∀ a, Z a → Z (d a)
theorem Dr.one {R : Type} {g : Lean.Grind.CommRing R} {Z : R → Prop} {d : R → R} (h : Dr g Z d) : d 1 = 0 := by
  have := h.2.1 1 1
  have e : (1 : R) * 1 = 1 := by grind
  rw [e] at this
  grind
theorem Dr.zero {R : Type} {g : Lean.Grind.CommRing R} {Z : R → Prop} {d : R → R} (h : Dr g Z d) : d 0 = 0 := by
  have := h.1 0 0
  have e : (0 : R) + 0 = 0 := by grind
  rw [e] at this
  grind
theorem Dr.sub {R : Type} {g : Lean.Grind.CommRing R} {Z : R → Prop} {d : R → R} (h : Dr g Z d) (a b : R) : d (a - b) = d a - d b := by
  have := h.1 (a - b) b
  have e : a - b + b = a := by grind
  rw [e] at this
  grind
theorem Dr.pow {R : Type} {g : Lean.Grind.CommRing R} {Z : R → Prop} {d : R → R} (h : Dr g Z d) (a : R) : ∀ n : Nat, d (a ^ (n + 1)) = nmG g (n + 1) * a ^ n * d a
  | 0 => by
    rw [Lean.Grind.Semiring.pow_succ, Lean.Grind.Semiring.pow_zero]
    have e : (1 : R) * a = a := by grind
    rw [e]
    simp only [nmG]
    grind
  | n + 1 => by
    rw [Lean.Grind.Semiring.pow_succ, h.2.1, h.pow a n]
    have e : nmG g (n + 1 + 1) = nmG g (n + 1) + 1 := rfl
    rw [e, Lean.Grind.Semiring.pow_succ]
    grind
/-- a multiple of the n-th power of w, up to Z -/
def jI {R : Type} (_ : Lean.Grind.CommRing R) (Z : R → Prop) (w : R) (n : Nat) (f : R) : Prop := ∃ q, Z (f - w ^ n * q)
theorem jI.of {R : Type} {g : Lean.Grind.CommRing R} {Z : R → Prop} (hi : Idl g Z) {w f f' : R} {n : Nat} (h : jI g Z w n f) (hz : Z (f' - f)) : jI g Z w n f' := by
  obtain ⟨q, hq⟩ := h
  exact ⟨q, hi.trans hz hq⟩
theorem jI.mono {R : Type} {g : Lean.Grind.CommRing R} {Z : R → Prop} {w f : R} {m n : Nat} (h : jI g Z w n f) (hm : m ≤ n) : jI g Z w m f := by
  obtain ⟨q, hq⟩ := h
  obtain ⟨k, rfl⟩ : ∃ k, n = m + k := ⟨n - m, by omega⟩
  refine ⟨w ^ k * q, ?_⟩
  rw [Lean.Grind.Semiring.pow_add] at hq
  have e : w ^ m * (w ^ k * q) = w ^ m * w ^ k * q := by grind
  rw [e]; exact hq
theorem jI_idl {R : Type} {g : Lean.Grind.CommRing R} {Z : R → Prop} (hi : Idl g Z) (w : R) (n : Nat) : Idl g (jI g Z w n) :=
  ⟨⟨0, hi.of hi.1 (by grind)⟩, fun a b ⟨q, hq⟩ ⟨q', hq'⟩ => ⟨q + q', hi.of (hi.2.1 _ _ hq hq') (by grind)⟩, fun a b ⟨q, hq⟩ => ⟨b * q, hi.of (hi.2.2 _ b hq) (by grind)⟩⟩
theorem Prm.powl {R : Type} {g : Lean.Grind.CommRing R} {Z : R → Prop} (hp : Prm g Z) {w f : R} (hw : ¬ Z w) (n : Nat) (h : Z (w ^ n * f)) : Z f := by
  rcases hp.2.1 _ _ h with q | q
  · exact absurd (hp.pow n q) hw
  · exact q
/-- one step up -/
theorem jI_up {R : Type} {g : Lean.Grind.CommRing R} {Z : R → Prop} (hp : Prm g Z) {d : R → R} (hd : Dr g Z d) {w f : R} (hw : ¬ Z w) (h1 : d w = 1) {n : Nat} (h0 : jI g Z w 1 f) (hf : jI g Z w n (d f)) (hn : ∀ e, 0 < e → e ≤ n → ∃ e', Z (nmG g e * e' - 1)) : ∀ e, e ≤ n → jI g Z w (e + 1) f
  | 0, _ => h0
  | e + 1, he => by
    have hi := hp.1
    obtain ⟨q, hq⟩ := jI_up hp hd hw h1 h0 hf hn e (by omega)
    obtain ⟨s, hs⟩ := hf.mono (show e + 1 ≤ n by omega)
    have h2 := hd.2.2 _ hq
    rw [hd.sub, hd.2.1, hd.pow, h1] at h2
    obtain ⟨e', he'⟩ := hn (e + 1) (by omega) (by omega)
    have h3 : Z (w ^ e * (nmG g (e + 1) * q + w * d q - w * s)) := by
      refine hi.of (hi.sub hs h2) ?_
      rw [Lean.Grind.Semiring.pow_succ]
      grind
    have h4 := hp.powl hw e h3
    refine ⟨e' * (s - d q), ?_⟩
    rw [Lean.Grind.Semiring.pow_succ]
    have h5 := hi.2.2 _ e' h4
    have h6 := hi.2.2 _ q he'
    have h7 : Z (q - w * (e' * (s - d q))) := hi.of (hi.sub h5 h6) (by grind)
    have h8 := hi.2.2 _ (w ^ (e + 1)) h7
    refine hi.of (hi.2.1 _ _ hq h8) ?_
    grind
/-- a chain of derivatives that vanish -/
theorem jI_chain {R : Type} {g : Lean.Grind.CommRing R} {Z : R → Prop} (hp : Prm g Z) {d : R → R} (hd : Dr g Z d) {w : R} (hw : ¬ Z w) (h1 : d w = 1) {M : Nat} (hn : ∀ e, 0 < e → e ≤ M → ∃ e', Z (nmG g e * e' - 1)) (H : Nat → R) (hH : ∀ k, k < M → Z (d (H k) - H (k + 1))) (h0 : ∀ k, k < M → jI g Z w 1 (H k)) : ∀ i, i ≤ M → jI g Z w i (H (M - i))
  | 0, _ => ⟨H (M - 0), by
    rw [Lean.Grind.Semiring.pow_zero]
    exact hp.1.of hp.1.1 (by grind)⟩
  | i + 1, hi => by
    have ih := jI_chain hp hd hw h1 hn H hH h0 i (by omega)
    have e : M - i = M - (i + 1) + 1 := by omega
    rw [e] at ih
    have h2 : jI g Z w i (d (H (M - (i + 1)))) := ih.of hp.1 (hH _ (by omega))
    exact jI_up hp hd hw h1 (h0 _ (by omega)) h2 (fun e h3 h4 => hn e h3 (by omega)) i (Nat.le_refl _)
/-- a factor that is prime to w goes -/
theorem jI_cop {R : Type} {g : Lean.Grind.CommRing R} {Z : R → Prop} (hp : Prm g Z) {w A q : R} (hw : ¬ Z w) (hP : ∀ a b, jI g Z w 1 (a * b) → jI g Z w 1 a ∨ jI g Z w 1 b) (hA : ¬ jI g Z w 1 A) {M : Nat} (h : jI g Z w M (A * q)) : ∀ k, k ≤ M → jI g Z w k q
  | 0, _ => ⟨q, by
    rw [Lean.Grind.Semiring.pow_zero]
    exact hp.1.of hp.1.1 (by grind)⟩
  | k + 1, hk => by
    have hi := hp.1
    obtain ⟨r, hr⟩ := jI_cop hp hw hP hA h k (by omega)
    obtain ⟨s, hs⟩ := h.mono hk
    have h3 : Z (w ^ k * (A * r - w * s)) := by
      refine hi.of (hi.sub hs (hi.2.2 _ A hr)) ?_
      rw [Lean.Grind.Semiring.pow_succ]
      grind
    have h4 := hp.powl hw k h3
    have h5 : jI g Z w 1 (A * r) := ⟨s, by
      have e : w ^ 1 = w := by rw [Lean.Grind.Semiring.pow_succ, Lean.Grind.Semiring.pow_zero]; grind
      rw [e]; exact h4⟩
    rcases hP _ _ h5 with w1 | w1
    · exact absurd w1 hA
    · obtain ⟨r', hr'⟩ := w1
      have e : w ^ 1 = w := by rw [Lean.Grind.Semiring.pow_succ, Lean.Grind.Semiring.pow_zero]; grind
      rw [e] at hr'
      refine ⟨r', ?_⟩
      rw [Lean.Grind.Semiring.pow_succ]
      refine hi.of (hi.2.1 _ _ hr (hi.2.2 _ (w ^ k) hr')) ?_
      grind
/-- products -/
def pdG {R : Type} (g : Lean.Grind.CommRing R) (f : Nat → R) : Nat → R
  | 0 => 1
  | n + 1 => pdG g f n * f n
theorem jI_all {R : Type} {g : Lean.Grind.CommRing R} {Z : R → Prop} (hp : Prm g Z) {w : Nat → R} {N M : Nat} {H : R} (hw : ∀ i, i < N → ¬ Z (w i)) (hP : ∀ i, i < N → ∀ a b, jI g Z (w i) 1 (a * b) → jI g Z (w i) 1 a ∨ jI g Z (w i) 1 b) (hc : ∀ i j, i < j → j < N → ¬ jI g Z (w j) 1 (w i)) (h1 : ∀ i, i < N → ¬ jI g Z (w i) 1 1) (h : ∀ i, i < N → jI g Z (w i) M H) : ∀ n, n ≤ N → ∃ q, Z (H - pdG g (fun i => w i ^ M) n * q)
  | 0, _ => ⟨H, hp.1.of hp.1.1 (by simp only [pdG]; grind)⟩
  | n + 1, hn => by
    have hi := hp.1
    obtain ⟨q, hq⟩ := jI_all hp hw hP hc h1 h n (by omega)
    have hpr : Prm g (jI g Z (w n) 1) := ⟨jI_idl hi _ _, hP n (by omega), h1 n (by omega)⟩
    have hA : ∀ m, m ≤ n → ¬ jI g Z (w n) 1 (pdG g (fun i => w i ^ M) m) := by
      intro m
      induction m with
      | zero => intro _ hh; exact h1 n (by omega) hh
      | succ m ih =>
        intro hm hh
        rcases hpr.2.1 _ _ hh with r | r
        · exact ih (by omega) r
        · exact hc m n (by omega) (by omega) (hpr.pow M r)
    have h2 : jI g Z (w n) M (pdG g (fun i => w i ^ M) n * q) := (h n (by omega)).of hi (hi.sym hq)
    obtain ⟨r, hr⟩ := jI_cop hp (hw n (by omega)) (hP n (by omega)) (hA n (Nat.le_refl _)) h2 M (Nat.le_refl _)
    refine ⟨r, ?_⟩
    refine hi.of (hi.2.1 _ _ hq (hi.2.2 _ (pdG g (fun i => w i ^ M) n) hr)) ?_
    simp only [pdG]
    grind
end
