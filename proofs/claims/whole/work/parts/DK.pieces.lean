/-! PIECES: products and degrees while they come apart -/
section
theorem pd_up {R : Type} {g : Lean.Grind.CommRing R} {Z : R → Prop} (hi : Idl g Z) {f : Nat → R} {i : Nat} {a b : R} (h : Z (f i - a * b)) : ∀ n, i < n → Z (pdG g f n - pdG g (upN f i a) n * b)
  | 0, hn => absurd hn (Nat.not_lt_zero _)
  | n + 1, hn => by
    simp only [pdG]
    by_cases q : i = n
    · subst q
      have e1 : upN f i a i = a := if_pos rfl
      have e2 : ∀ m, m ≤ i → pdG g (upN f i a) m = pdG g f m := by
        intro m
        induction m with
        | zero => intro _; rfl
        | succ m ih =>
          intro hm
          simp only [pdG]
          rw [ih (by omega)]
          have : upN f i a m = f m := if_neg (by omega)
          rw [this]
      rw [e1, e2 i (Nat.le_refl _)]
      exact hi.of (hi.2.2 _ (pdG g f i) h) (by grind)
    · have ih := pd_up hi h n (by omega)
      have e1 : upN f i a n = f n := if_neg (fun e => q e.symm)
      rw [e1]
      exact hi.of (hi.2.2 _ (f n) ih) (by grind)
def sgm (g : Nat → Nat) : Nat → Nat
  | 0 => 0
  | n + 1 => sgm g n + g n
theorem sgm_up {e : Nat → Nat} {i a : Nat} : ∀ n, i < n → sgm (upN e i a) n + e i = sgm e n + a
  | 0, hn => absurd hn (Nat.not_lt_zero _)
  | n + 1, hn => by
    simp only [sgm]
    by_cases q : i = n
    · subst q
      have e1 : upN e i a i = a := if_pos rfl
      have e2 : ∀ m, m ≤ i → sgm (upN e i a) m = sgm e m := by
        intro m
        induction m with
        | zero => intro _; rfl
        | succ m ih =>
          intro hm
          simp only [sgm]
          rw [ih (by omega)]
          have : upN e i a m = e m := if_neg (by omega)
          rw [this]
      rw [e1, e2 i (Nat.le_refl _)]; omega
    · have ih := sgm_up n (by omega) (e := e) (i := i) (a := a)
      have e1 : upN e i a n = e n := if_neg (fun e => q e.symm)
      rw [e1]; omega
theorem sgm_congr {f g : Nat → Nat} : ∀ n, (∀ i, i < n → f i = g i) → sgm f n = sgm g n
  | 0, _ => rfl
  | n + 1, h => by simp only [sgm]; rw [sgm_congr n (fun i hi => h i (by omega)), h n (by omega)]
theorem sgm_ge {e : Nat → Nat} : ∀ n i, i < n → (∀ j, j < n → 0 < e j) → n - 1 + e i ≤ sgm e n
  | 0, i, h, _ => absurd h (Nat.not_lt_zero _)
  | n + 1, i, h, hp => by
    simp only [sgm]
    have hn := hp n (by omega)
    by_cases q : i = n
    · subst q
      have : ∀ m, m ≤ i → m ≤ sgm e m := by
        intro m
        induction m with
        | zero => intro _; exact Nat.le_refl _
        | succ m ih => intro hm; simp only [sgm]; have := ih (by omega); have := hp m (by omega); omega
      have := this i (Nat.le_refl _)
      omega
    · have := sgm_ge n i (by omega) (fun j hj => hp j (by omega))
      omega
/-- as many as there can be: each is as small as it can be -/
theorem sgm_all {e : Nat → Nat} {d : Nat} : ∀ n, (∀ j, j < n → d ≤ e j) → sgm e n ≤ n * d → ∀ j, j < n → e j = d
  | 0, _, _, j, hj => absurd hj (Nat.not_lt_zero _)
  | n + 1, h1, h2, j, hj => by
    simp only [sgm] at h2
    have hlow : ∀ m, m ≤ n + 1 → m * d ≤ sgm e m := by
      intro m
      induction m with
      | zero => intro _; rw [Nat.zero_mul]; exact Nat.zero_le _
      | succ m ih => intro hm; simp only [sgm]; have := ih (by omega); have := h1 m (by omega); rw [Nat.add_mul, Nat.one_mul]; omega
    have h3 := hlow n (by omega)
    have h4 := h1 n (by omega)
    rw [Nat.add_mul, Nat.one_mul] at h2
    by_cases q : j = n
    · rw [q]; omega
    · exact sgm_all n (fun j hj => h1 j (by omega)) (by omega) j (by omega)
theorem on_cg {p c d : Nat} (hp : Pr (p : Int)) {h k : PF} {s : Int} (hd : dl h.1 (d + 1)) (kd : dl k.1 (d + 1)) (e : cg p h.1 k.1) : onS p c d s h ↔ onS p c d s k := by
  have hi : Idl pfR (ZP p (wP (-s)).1) := idl_p
  have h1 : (p : Int) ∣ vI (d + 1) h.1 (-s) - vI (d + 1) k.1 (-s) := by
    refine v_uniq hp hd (hi.trans (zc_zp (fun j => ?_)) (v_at kd (-s)))
    show (p : Int) ∣ h.1 j + -1 * k.1 j
    rw [show h.1 j + -1 * k.1 j = h.1 j - k.1 j by omega]; exact e j
  have h2 : (p : Int) ∣ (-1) ^ d * vI (d + 1) h.1 (-s) - (-1) ^ d * vI (d + 1) k.1 (-s) := by
    rw [← Int.mul_sub]; exact Int.dvd_mul_of_dvd_right h1
  have h3 : (p : Int) ∣ ((-1) ^ d * vI (d + 1) h.1 (-s)) ^ c - ((-1) ^ d * vI (d + 1) k.1 (-s)) ^ c := (idl_int (p : Int)).pow2 h2 c
  unfold onS
  generalize ((-1) ^ d * vI (d + 1) h.1 (-s)) ^ c = x at *
  generalize ((-1) ^ d * vI (d + 1) k.1 (-s)) ^ c = y at *
  constructor
  · intro w
    have := Int.dvd_sub w h3
    rwa [show x - 1 - (x - y) = y - 1 by omega] at this
  · intro w
    have := Int.dvd_add w h3
    rwa [show y - 1 + (x - y) = x - 1 by omega] at this
/-- of the least degree: irreducible -/
theorem sd_least {p d : Nat} (hp : Pr (p : Int)) {g : PF} (hg : Sd p d g) (hn : md p g.1 d) (hd : 0 < d) : IrM p g.1 d := ⟨g.2, hn, hd, fun x e hx he hdv => by
  have h1 := hdv.le hp he hn
  rcases Nat.eq_zero_or_pos e with z | z
  · exact Or.inl z
  · obtain ⟨h, D, hh, hd'⟩ := irm_ex hp hx he z
    have := hg.2.2 h D hh (hd'.trans hdv)
    have := hd'.le hp hh.2.1 he
    omega⟩
theorem npt_least {p c d : Nat} (hp : Pr (p : Int)) {g : PF} (hg : Sd p d g) (hn : md p g.1 d) (hd : 0 < d) (s : Int) : npt p c d s g := fun h k m1 m2 d1 d2 => by
  have hir := sd_least hp hg hn hd
  -- both are g up to a number
  have key : ∀ {h : PF}, MI p d h → dmP p h.1 g.1 → dmP p g.1 h.1 := fun {h} m d1 => by
    obtain ⟨q, hq, eq⟩ := d1
    obtain ⟨f, hf⟩ := md_of hq (md_mul_r (hn.of_cg eq)).1
    have := (hf.mul hp m.1.2.1).uniq (hn.of_cg eq)
    have hf0 : f = 0 := by omega
    subst hf0
    have h1 : asc p h.1 g.1 := (asc.c hp hf.1).trans (asc.of_cg ((show cg p (pc (q 0) h.1) (pm q h.1) from by
      have := cg.mul_l h.1 (md0 hf)
      have e2 : pm (pk0 (q 0)) h.1 = pc (q 0) h.1 := funext fun k => pm_c0 _ _ k
      rw [e2] at this
      exact this.symm).trans eq.symm))
    exact h1.2
  exact on_cg hp m1.2.1 m2.2.1 (MI.same hp m1 m2 (d1.trans (key m2 d2)))
end
