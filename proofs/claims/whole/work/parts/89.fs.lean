/-! WHAT IS TAKEN APART SO FAR -/
section
def FS (f0 : PP) (c : Nat) (q : Nat → PP) (n : Nat → Nat) (g : PP) : Prop := Pf g ∧ g ≠ p0 ∧ f0 = pm (prd q n c) g ∧ (∀ i, i < c → Irr (q i) ∧ (∃ d, dgI (q i) d ∧ 0 < q i d) ∧ 0 < n i ∧ ¬ dv (q i) g) ∧ ∀ i j, i < j → j < c → q i ≠ q j
/-- a body: what takeApart begins with -/
def body (f0 : PP) : Prop := sm7 f0 ∧ prim f0 ∧ ∃ d, dgI f0 d ∧ 0 < f0 d
theorem FS.start {f : PP} (hf : body f) (q : Nat → PP) (n : Nat → Nat) : FS f 0 q n f := by
  obtain ⟨h1, h2, d, hd, h3⟩ := hf
  exact ⟨hd.pf, hd.ne, by show f = pm (pk0 1) f; rw [pm_1l], fun i hi => absurd hi (Nat.not_lt_zero _), fun i j _ hj => absurd hj (Nat.not_lt_zero _)⟩
theorem prd_pf {q : Nat → PP} {n : Nat → Nat} : ∀ c, (∀ i, i < c → Pf (q i)) → Pf (prd q n c)
  | 0, _ => Pf.k 1
  | c + 1, h => (prd_pf c (fun i hi => h i (by omega))).mul (pw_pf (h c (by omega)) _)
theorem prd_dg {q : Nat → PP} {n : Nat → Nat} : ∀ c, (∀ i, i < c → (∃ d, 0 < d ∧ dgI (q i) d) ∧ 0 < n i) → ∃ D, c ≤ D ∧ dgI (prd q n c) D
  | 0, _ => ⟨0, Nat.le_refl 0, ⟨by show (1 : Int) ≠ 0; decide, fun j hj => by cases j with
    | zero => omega
    | succ j => rfl⟩⟩
  | c + 1, h => by
    obtain ⟨D, hD, hd⟩ := prd_dg c (fun i hi => h i (by omega))
    obtain ⟨⟨d, hd0, hqd⟩, hn⟩ := h c (by omega)
    have := hd.mul (pw_dg hqd (n c))
    refine ⟨D + n c * d, ?_, this⟩
    have := Nat.mul_pos hn hd0
    omega
theorem prd_congr {q q' : Nat → PP} {n n' : Nat → Nat} : ∀ c, (∀ i, i < c → q i = q' i ∧ n i = n' i) → prd q n c = prd q' n' c
  | 0, _ => rfl
  | c + 1, h => by
    rw [prd, prd, prd_congr c (fun i hi => h i (by omega)), (h c (by omega)).1, (h c (by omega)).2]
theorem FS.dvd {f0 g : PP} {c : Nat} {q : Nat → PP} {n : Nat → Nat} (h : FS f0 c q n g) : dv g f0 := ⟨prd q n c, prd_pf c (fun i hi => by obtain ⟨d, hd, -⟩ := (h.2.2.2.1 i hi).2.1; exact hd.pf), by rw [h.2.2.1]; funext k; rw [pm_comm]⟩
theorem FS.cnt {f0 g : PP} {c d : Nat} {q : Nat → PP} {n : Nat → Nat} (h : FS f0 c q n g) (hs : dl f0 7) (hg : dgI g d) : c + d ≤ 6 := by
  obtain ⟨D, hD, hd⟩ := prd_dg c (fun i hi => ⟨(h.2.2.2.1 i hi).1.1, (h.2.2.2.1 i hi).2.2.1⟩)
  have h1 : dgI f0 (D + d) := by rw [h.2.2.1]; exact hd.mul hg
  have := h1.lt hs
  omega
theorem FS.step {f0 g g' t : PP} {c k : Nat} {q : Nat → PP} {n : Nat → Nat} (h : FS f0 c q n g) (ht : Irr t) (htp : ∃ d, dgI t d ∧ 0 < t d) (hg : g = pm (pw t k) g') (hf : Pf g') (hk : 0 < k) (hnd : ¬ dv t g') (htg : dv t g) : FS f0 (c + 1) (upN q c t) (upN n c k) g' := by
  obtain ⟨h1, h2, h3, h4, h5⟩ := h
  obtain ⟨d, htd, htpos⟩ := htp
  have hg'd : dv g' g := ⟨pw t k, pw_pf htd.pf k, by rw [hg]; funext j; rw [pm_comm]⟩
  refine ⟨hf, fun z => h2 (by rw [hg, z]; funext j; rw [pm_comm, pm_0l]), ?_, fun i hi => ?_, fun i j hij hj => ?_⟩
  · rw [prd]
    have e1 : prd (upN q c t) (upN n c k) c = prd q n c := prd_congr c (fun i hi => ⟨if_neg (by omega), if_neg (by omega)⟩)
    rw [e1, show upN q c t c = t from if_pos rfl, show upN n c k c = k from if_pos rfl, h3, hg]
    funext j
    rw [pm_assoc]
  · unfold upN
    by_cases w : i = c
    · rw [if_pos w, if_pos w]; exact ⟨ht, ⟨d, htd, htpos⟩, hk, hnd⟩
    · rw [if_neg w, if_neg w]
      obtain ⟨a1, a2, a3, a4⟩ := h4 i (by omega)
      exact ⟨a1, a2, a3, fun z => a4 (z.trans hg'd)⟩
  · unfold upN
    rw [if_neg (show ¬ i = c by omega)]
    by_cases w : j = c
    · rw [if_pos w]
      exact fun z => (h4 i (by omega)).2.2.2 (by rw [z]; exact htg)
    · rw [if_neg w]; exact h5 i j hij (by omega)
/-- divisors of a body are primitive -/
theorem prim_dv {f g : PP} (hf : prim f) (h : dv g f) : prim g := fun l hl ha => by
  obtain ⟨s, hs, es⟩ := h
  refine hf l hl (fun k => ?_)
  rw [← es, pm_comm]
  exact low0 g k s (fun b _ => ha b)
/-- their coefficients -/
theorem body_bd {f g : PP} (hf : body f) (hgf : Pf g) (h : dv g f) : dl g 7 ∧ (∀ k, (g k).natAbs ≤ 33350) ∧ (∀ d, dgI g d → 6 ≤ d → ∀ k, (g k).natAbs ≤ 300) := by
  obtain ⟨hs, hp, d0, hd0, -⟩ := hf
  obtain ⟨s, hs', es⟩ := h
  have hg0 : g ≠ p0 := fun z => hd0.ne (by rw [← es, z, pm_0l])
  have hs0 : s ≠ p0 := fun z => hd0.ne (by rw [← es, z]; funext k; rw [pm_comm, pm_0l])
  have hb := div_le hgf hs' hs hd0.ne es
  refine ⟨hb.1, fun k => by have := hb.2 k; omega, fun d hd h6 k => ?_⟩
  obtain ⟨e, he⟩ := hs'.dg hs0
  have h1 : dgI f (d + e) := by rw [← es]; exact hd.mul he
  have h2 := h1.lt hs.1
  have he0 : e = 0 := by omega
  subst he0
  have e2 : f k = s 0 * g k := by rw [← es, dgI0 he, pm_k_r]; rfl
  have b := hs.2 k
  have h7 : (g k).natAbs ≤ (s 0 * g k).natAbs := by rw [Int.natAbs_mul]; exact Nat.le_mul_of_pos_left _ (Int.natAbs_pos.mpr he.1)
  rw [← e2] at h7
  omega
end
