/-! PRIMES AND PRIMITIVE POLYNOMIALS -/
section
/-- a polynomial -/
def Pf (f : PP) : Prop := ∃ n, dl f n
/-- of degree d -/
def dgI (f : PP) (d : Nat) : Prop := f d ≠ 0 ∧ dl f (d + 1)
theorem dl_mono {f : PP} {m n : Nat} (h : dl f m) (hm : m ≤ n) : dl f n := fun k hk => h k (by omega)
theorem Pf.dg {f : PP} (h : Pf f) (h0 : f ≠ p0) : ∃ d, dgI f d := by
  obtain ⟨n, hn⟩ := h
  obtain ⟨d, -, h1, h2⟩ := dg_ex f n hn h0
  exact ⟨d, h1, h2⟩
theorem dgI.pf {f : PP} {d : Nat} (h : dgI f d) : Pf f := ⟨d + 1, h.2⟩
theorem dgI.ne {f : PP} {d : Nat} (h : dgI f d) : f ≠ p0 := fun e => h.1 (by rw [e]; rfl)
theorem dgI.uniq {f : PP} {d e : Nat} (h : dgI f d) (h' : dgI f e) : d = e := by
  rcases Nat.lt_trichotomy d e with q | q | q
  · exact absurd (h.2 e q) h'.1
  · exact q
  · exact absurd (h'.2 d q) h.1
theorem dgI.lt {f : PP} {d n : Nat} (h : dgI f d) (hn : dl f n) : d < n := by
  rcases Nat.lt_or_ge d n with q | q
  · exact q
  · exact absurd (hn d q) h.1
theorem dgI.mul {f g : PP} {m n : Nat} (hf : dgI f m) (hg : dgI g n) : dgI (pm f g) (m + n) :=
  ⟨by rw [pm_top m f g n hf.2 hg.2]; exact Int.mul_ne_zero hf.1 hg.1, pm_dl m f g n hf.2 hg.2⟩
theorem Pf.mul {f g : PP} (hf : Pf f) (hg : Pf g) : Pf (pm f g) := by
  obtain ⟨m, hm⟩ := hf
  obtain ⟨n, hn⟩ := hg
  exact ⟨m + n + 1, pm_dl m f g n (dl_mono hm (by omega)) (dl_mono hn (by omega))⟩
theorem Pf.add {f g : PP} (hf : Pf f) (hg : Pf g) : Pf (pa f g) := by
  obtain ⟨m, hm⟩ := hf
  obtain ⟨n, hn⟩ := hg
  exact ⟨m + n, fun k hk => by simp only [pa]; rw [hm k (by omega), hn k (by omega)]; rfl⟩
theorem Pf.c {f : PP} (c : Int) (hf : Pf f) : Pf (pc c f) := by
  obtain ⟨m, hm⟩ := hf
  exact ⟨m, fun k hk => by simp only [pc]; rw [hm k hk]; simp⟩
theorem Pf.x {f : PP} (hf : Pf f) : Pf (px f) := by
  obtain ⟨m, hm⟩ := hf
  refine ⟨m + 1, fun k hk => ?_⟩
  cases k with
  | zero => omega
  | succ k => exact hm k (by omega)
theorem Pf.k (c : Int) : Pf (pk0 c) := ⟨1, fun k hk => by cases k with
  | zero => omega
  | succ k => rfl⟩
theorem Pf.z : Pf p0 := ⟨0, fun _ _ => rfl⟩
theorem pm_ne {f g : PP} (hf : Pf f) (hg : Pf g) (h : pm f g = p0) : f = p0 ∨ g = p0 := by
  by_cases h1 : f = p0
  · exact Or.inl h1
  · by_cases h2 : g = p0
    · exact Or.inr h2
    · obtain ⟨m, hm⟩ := hf.dg h1
      obtain ⟨n, hn⟩ := hg.dg h2
      exact absurd h (hm.mul hn).ne
/-- cancelling -/
theorem pm_cancel {f g h : PP} (hf : Pf f) (h0 : f ≠ p0) (hg : Pf g) (hh : Pf h) (e : pm f g = pm f h) : g = h := by
  have q : pm f (pa g (pc (-1) h)) = p0 := funext fun k => by
    rw [pm_add_r f, pm_c_r, e]
    show _ = 0
    omega
  rcases pm_ne hf (hg.add (hh.c (-1))) q with r | r
  · exact absurd r h0
  · funext k
    have := congrFun r k
    simp only [pa, pc, p0] at this
    omega
/-- Euclid's property -/
def Pr (l : Int) : Prop := 1 < l ∧ ∀ a b : Int, l ∣ a * b → l ∣ a ∨ l ∣ b
theorem pr_of {n : Nat} (h1 : 1 < n) (h : ∀ d, d ∣ n → d = 1 ∨ d = n) : Pr (n : Int) := by
  refine ⟨by omega, fun a b hab => ?_⟩
  rw [← Int.natAbs_dvd_natAbs] at hab
  rw [Int.natAbs_mul, Int.natAbs_natCast] at hab
  rcases h _ (Nat.gcd_dvd_left n a.natAbs) with e | e
  · right
    have hc : Nat.Coprime n a.natAbs := e
    have := hc.dvd_of_dvd_mul_left hab
    rw [← Int.natAbs_dvd_natAbs, Int.natAbs_natCast]
    exact this
  · left
    rw [← Int.natAbs_dvd_natAbs, Int.natAbs_natCast, ← e]
    exact Nat.gcd_dvd_right n a.natAbs
theorem pr_ex : ∀ n : Nat, 1 < n → ∃ l : Nat, l ∣ n ∧ Pr (l : Int) := by
  intro n
  induction n using Nat.strongRecOn with
  | ind n ih =>
    intro hn
    by_cases h : ∀ d, d ∣ n → d = 1 ∨ d = n
    · exact ⟨n, Nat.dvd_refl n, pr_of hn h⟩
    · have ⟨d, hd⟩ : ∃ d, ¬ (d ∣ n → d = 1 ∨ d = n) := Classical.not_forall.mp h
      have ⟨hd1, hd2⟩ := Classical.not_imp.mp hd
      have hd3 : d ≠ 1 ∧ d ≠ n := ⟨fun e => hd2 (Or.inl e), fun e => hd2 (Or.inr e)⟩
      have hle := Nat.le_of_dvd (by omega) hd1
      have hpos : d ≠ 0 := fun e => by rw [e] at hd1; have := Nat.eq_zero_of_zero_dvd hd1; omega
      obtain ⟨l, hl, hp⟩ := ih d (by omega) (by omega)
      exact ⟨l, Nat.dvd_trans hl hd1, hp⟩
/-- the lowest places modulo l -/
theorem low0 {l : Int} (g : PP) : ∀ (k : Nat) (f : PP), (∀ b, b ≤ k → l ∣ g b) → l ∣ pm f g k
  | 0, f, h => Int.dvd_mul_of_dvd_right (h 0 (by omega))
  | k + 1, f, h => by
    rw [pm]
    exact Int.dvd_add (Int.dvd_mul_of_dvd_right (h (k + 1) (by omega))) (low0 g k (pt f) (fun b hb => h b (by omega)))
theorem low1 {l : Int} (g : PP) (j : Nat) (hg : ∀ b, b < j → l ∣ g b) : ∀ (i : Nat) (f : PP), (∀ a, a < i → l ∣ f a) → l ∣ pm f g (i + j) - f i * g j
  | 0, f, _ => by
    rw [Nat.zero_add]
    cases j with
    | zero => simp [pm]
    | succ j =>
      rw [pm]
      have := low0 (l := l) g j (pt f) (fun b hb => hg b (by omega))
      rw [show f 0 * g (j + 1) + pm (pt f) g j - f 0 * g (j + 1) = pm (pt f) g j by omega]
      exact this
  | i + 1, f, hf => by
    rw [show i + 1 + j = (i + j) + 1 by omega, pm]
    have h1 := low1 g j hg i (pt f) (fun a ha => hf (a + 1) (by omega))
    have h2 : l ∣ f 0 * g (i + j + 1) := Int.dvd_mul_of_dvd_left (hf 0 (by omega))
    have h3 := Int.dvd_add h2 h1
    have e : f 0 * g (i + j + 1) + (pm (pt f) g (i + j) - pt f i * g j) = f 0 * g (i + j + 1) + pm (pt f) g (i + j) - f (i + 1) * g j := by
      simp only [pt]; omega
    rw [e] at h3
    exact h3
/-- a least place with a property -/
theorem least {P : Nat → Prop} (n : Nat) (h : P n) : ∃ m, P m ∧ ∀ k, k < m → ¬ P k := by
  induction n using Nat.strongRecOn with
  | ind n ih =>
    by_cases q : ∃ k, k < n ∧ P k
    · obtain ⟨k, hk, hp⟩ := q
      exact ih k hk hp
    · exact ⟨n, h, fun k hk hp => q ⟨k, hk, hp⟩⟩
/-- all places divided by l -/
def al (l : Int) (f : PP) : Prop := ∀ k, l ∣ f k
theorem al_mul {l : Int} (hl : Pr l) {f g : PP} (h : al l (pm f g)) : al l f ∨ al l g := by
  by_cases h1 : al l f
  · exact Or.inl h1
  · by_cases h2 : al l g
    · exact Or.inr h2
    · obtain ⟨a, ha⟩ := Classical.not_forall.mp h1
      obtain ⟨b, hb⟩ := Classical.not_forall.mp h2
      obtain ⟨i, hi, hi'⟩ := least (P := fun k => ¬ l ∣ f k) a ha
      obtain ⟨j, hj, hj'⟩ := least (P := fun k => ¬ l ∣ g k) b hb
      have q := low1 (l := l) g j (fun b hb => Classical.not_not.mp (hj' b hb)) i f (fun a ha => Classical.not_not.mp (hi' a ha))
      have r : l ∣ f i * g j := by
        have := Int.dvd_sub (h (i + j)) q
        rw [show pm f g (i + j) - (pm f g (i + j) - f i * g j) = f i * g j by omega] at this
        exact this
      rcases hl.2 _ _ r with s | s
      · exact absurd s hi
      · exact absurd s hj
/-- no prime divides all places -/
def prim (f : PP) : Prop := ∀ l, Pr l → ¬ al l f
theorem prim.mul {f g : PP} (hf : prim f) (hg : prim g) : prim (pm f g) := fun l hl h => by
  rcases al_mul hl h with q | q
  · exact hf l hl q
  · exact hg l hl q
theorem al_div {l : Int} (hl : l ≠ 0) {f : PP} (h : al l f) (hf : Pf f) : ∃ g, Pf g ∧ f = pc l g := by
  refine ⟨fun k => f k / l, ?_, ?_⟩
  · obtain ⟨n, hn⟩ := hf
    exact ⟨n, fun k hk => by simp only; rw [hn k hk]; simp⟩
  · funext k
    exact (Int.mul_ediv_cancel' (h k)).symm
theorem pc_inj {c : Int} (hc : c ≠ 0) {f g : PP} (h : pc c f = pc c g) : f = g := funext fun k => by
  have := congrFun h k
  exact Int.eq_of_mul_eq_mul_left hc this
theorem pc_pc (a b : Int) (f : PP) : pc a (pc b f) = pc (a * b) f := funext fun k => by simp only [pc]; rw [Int.mul_assoc]
/-- f divides g -/
def dv (f g : PP) : Prop := ∃ q, Pf q ∧ pm f q = g
/-- GAUSS: a primitive one that divides a multiple divides -/
theorem gauss {q x : PP} (hq : prim q) (hx : Pf x) : ∀ (n : Nat) (c : Int), c.natAbs = n → c ≠ 0 → dv q (pc c x) → dv q x := by
  intro n
  induction n using Nat.strongRecOn with
  | ind n ih =>
    intro c hc h0 ⟨k, hk, e⟩
    by_cases h1 : n = 1
    · have hc1 : c = 1 ∨ c = -1 := by omega
      refine ⟨pc c k, hk.c c, funext fun j => ?_⟩
      rw [pm_c_r, e]
      simp only [pc]
      rcases hc1 with rfl | rfl <;> omega
    · obtain ⟨l, hl, hp⟩ := pr_ex n (by omega)
      have hlc : (l : Int) ∣ c := by
        rw [← Int.natAbs_dvd_natAbs, Int.natAbs_natCast, hc]
        exact hl
      have ha : al (l : Int) (pm q k) := fun j => by
        rw [e]
        exact Int.dvd_mul_of_dvd_left hlc
      rcases al_mul hp ha with r | r
      · exact absurd r (hq _ hp)
      · have hl0 : (l : Int) ≠ 0 := by have := hp.1; omega
        obtain ⟨k1, hk1, rfl⟩ := al_div hl0 r hk
        obtain ⟨c1, rfl⟩ := hlc
        have hc10 : c1 ≠ 0 := fun z => h0 (by rw [z]; simp)
        have hlt : c1.natAbs < n := by
          rw [← hc, Int.natAbs_mul, Int.natAbs_natCast]
          have h2 : 1 < l := by have := hp.1; omega
          have h3 : 0 < c1.natAbs := Int.natAbs_pos.mpr hc10
          have := Nat.mul_lt_mul_of_pos_right h2 h3
          omega
        refine ih _ hlt c1 rfl hc10 ⟨k1, hk1, pc_inj hl0 ?_⟩
        rw [pc_pc, ← e]
        funext j
        rw [pm_c_r]
        rfl
/-- the primitive part -/
theorem prim_ex : ∀ (n : Nat) (f : PP) (d : Nat), dgI f d → (f d).natAbs = n → ∃ c g, c ≠ 0 ∧ prim g ∧ dgI g d ∧ f = pc c g := by
  intro n
  induction n using Nat.strongRecOn with
  | ind n ih =>
    intro f d hd hn
    by_cases h : prim f
    · exact ⟨1, f, by decide, h, hd, funext fun k => by simp [pc]⟩
    · obtain ⟨l, hl⟩ := Classical.not_forall.mp h
      obtain ⟨hp, ha⟩ := Classical.not_imp.mp hl
      have ha := Classical.not_not.mp ha
      have hl0 : l ≠ 0 := by have := hp.1; omega
      obtain ⟨g, hg, rfl⟩ := al_div hl0 ha hd.pf
      have hgd : dgI g d := ⟨fun z => hd.1 (by simp only [pc]; rw [z]; simp), fun k hk => by
        have := hd.2 k hk
        simp only [pc] at this
        rcases Int.mul_eq_zero.mp this with q | q
        · exact absurd q hl0
        · exact q⟩
      have hlt : (g d).natAbs < n := by
        rw [← hn]
        simp only [pc]
        rw [Int.natAbs_mul]
        have h2 : 1 < l.natAbs := by have := hp.1; omega
        have h3 : 0 < (g d).natAbs := Int.natAbs_pos.mpr hgd.1
        have := Nat.mul_lt_mul_of_pos_right h2 h3
        omega
      obtain ⟨c, g1, h1, h2, h3, h4⟩ := ih _ hlt g d hgd rfl
      exact ⟨l * c, g1, Int.mul_ne_zero hl0 h1, h2, h3, by rw [h4, pc_pc]⟩
end
